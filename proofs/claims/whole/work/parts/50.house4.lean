theorem RC.fld {S : St} {M M' : Mem} {k x : Int} (h : RC S M) (hf : FLD M M' k x) : RC (su S 2 5 x) M' := by
  refine ⟨fun a ha i => ?_, ?_⟩
  · have h2 : a ≠ 2 := by rintro rfl; cases ha
    unfold su
    rw [if_neg (fun h => h2 h.1), ← h.1 a ha i]
    unfold pk
    rw [hf.1 a h2]
  · unfold su
    rw [if_pos ⟨rfl, rfl⟩]
    exact hf.2.2
theorem RC.swh {S : St} {M : Mem} (h : RC S M) : RC (swSH S) (swH M) := by
  refine ⟨fun a ha i => ?_, ?_⟩
  · show ((if 3 ≤ a ∧ a < 33 then M (a + 30) else if 33 ≤ a ∧ a < 63 then M (a - 30) else M a) i).toInt = (if 3 ≤ a ∧ a < 33 then S (a + 30) else if 33 ≤ a ∧ a < 63 then S (a - 30) else S a) i
    by_cases h1 : 3 ≤ a ∧ a < 33
    · rw [if_pos h1, if_pos h1]
      exact h.1 (a + 30) (by simp [cst]; omega) i
    · rw [if_neg h1, if_neg h1]
      by_cases h2 : 33 ≤ a ∧ a < 63
      · rw [if_pos h2, if_pos h2]
        exact h.1 (a - 30) (by simp [cst]; omega) i
      · rw [if_neg h2, if_neg h2]
        exact h.1 a ha i
  · unfold swSH swH pk
    exact h.2
theorem RC.bgn {S : St} {M : Mem} {n : Int} (h : RC S M) : RC (su S 2 5 (-1)) (po (po (po M 2 1 n) 2 4 0) 2 5 (-1)) := by
  refine ⟨fun a ha i => ?_, ?_⟩
  · have h2 : a ≠ 2 := by rintro rfl; cases ha
    unfold su
    rw [if_neg (fun h => h2 h.1), pk_po_ne h2, pk_po_ne h2, pk_po_ne h2]
    exact h.1 a ha i
  · unfold su
    rw [if_pos ⟨rfl, rfl⟩, pk_po_eq]
    rfl
theorem FC.swh {M M' : Mem} (h : FC M M') : FC M (swH M') := fun a ha ha2 => by
  unfold swH
  rw [if_neg (by omega), if_neg (by omega)]
  exact h a ha ha2
theorem FC.fld {M M' : Mem} {k x : Int} (hf : FLD M M' k x) : FC M M' := fun a ha _ => hf.1 a (by omega)
theorem FC.txm {M M' : Mem} {p f : Int} (h : FC M M') : FC M (txm M' p f) := (h.pw (by decide)).pw (by decide)
section C50
variable {Q : MOut → MHp → Prop} {X : Nat × (Nat → Int32)} {s : Bool × Bool} {dh dl t : Nat} {M : Mem} {S : St} {p f n : Int}
theorem K78 (hC : RC S M) (hb : 0 ≤ S 0 1 ∧ S 0 1 ≤ 600) (hn : wz n = n) (hP : PG X t M Q (o_house S n)) : CL 78 [.ref 0, vI n] (mkh X s dh dl t M) Q := by
  simp only [↓x_al_0, ↓x_il_1, ↓x_c, ↓gi_0_1, ↓c_110, ↓pi_0_1, ↓gr_0_2, ↓c_67, ↓gr_0_7, ↓gd_0_4, ↓c_27, ↓x_ne0, ↓gi_2_4, ↓x_isub, ↓x_ir, ↓gd_0_3, ↓x_as_2, ↓x_al_2, ↓gr_0_9, ↓c_1, ↓pi_0_11, ↓gi_hA_1, ↓gi_hB_1, ↓n_78, ↓s_78_0, ↓s_78_48, ↓bk_v, ↓bk_n, ↓bk_r, ↓be_78, ↓pv_i, ↓pv_r, ↓pv_0, ↓pv_l, wz_pk, wz_ti, wz_wz, vI_wz, wz_id, wz_0, List.length_cons, List.length_nil, ↓reduceIte, true_and, and_true, Int.reduceLE, Int.reduceLT, Int.reduceEq, not_true_eq_false, not_false_eq_true, false_or, or_false, true_or, or_true, ite_not, Int.reduceNeg, Int32.reduceToInt, Nat.reduceAdd, Nat.reduceLeDiff, Nat.reduceLT, Nat.reduceEqDiff, Int.reduceAdd, Int.reduceSub, Int.reduceMul, Nat.zero_le, pk_po_ne, pk_po_eq, pk_po_ix, rI, ne_eq, hC.at 0 rfl, hC.wzz 0 rfl, ↓C110 hC, hn]
  by_cases h1 : 0 ≤ n ∧ n ≤ S 0 1
  · rw [if_pos h1]
    have hC1 := (hC.putz (a := 0) (i := 1) (x := 0) (by decide) rfl).bgn (n := n)
    have hn1 : pk (po (po (po (po M 0 1 0) 2 1 n) 2 4 0) 2 5 (-1)) 2 1 = n := by
      rw [pk_po_ix (by decide), pk_po_ix (by decide), pk_po_eq]
      exact hn
    have hF1 : FC M (po (po (po (po M 0 1 0) 2 1 n) 2 4 0) 2 5 (-1)) := (((FC.rfl.pw (by decide)).pw (by decide)).pw (by decide)).pw (by decide)
    rw [C67 h1.1 (by omega)]
    simp only [↓x_al_0, ↓x_il_1, ↓x_c, ↓gi_0_1, ↓c_110, ↓pi_0_1, ↓gr_0_2, ↓c_67, ↓gr_0_7, ↓gd_0_4, ↓c_27, ↓x_ne0, ↓gi_2_4, ↓x_isub, ↓x_ir, ↓gd_0_3, ↓x_as_2, ↓x_al_2, ↓gr_0_9, ↓c_1, ↓pi_0_11, ↓gi_hA_1, ↓gi_hB_1, ↓n_78, ↓s_78_0, ↓s_78_48, ↓bk_v, ↓bk_n, ↓bk_r, ↓be_78, ↓pv_i, ↓pv_r, ↓pv_0, ↓pv_l, wz_pk, wz_ti, wz_wz, vI_wz, wz_id, wz_0, List.length_cons, List.length_nil, ↓reduceIte, true_and, and_true, Int.reduceLE, Int.reduceLT, Int.reduceEq, not_true_eq_false, not_false_eq_true, false_or, or_false, true_or, or_true, ite_not, Int.reduceNeg, Int32.reduceToInt, Nat.reduceAdd, Nat.reduceLeDiff, Nat.reduceLT, Nat.reduceEqDiff, Int.reduceAdd, Int.reduceSub, Int.reduceMul, Nat.zero_le, pk_po_ne, pk_po_eq, pk_po_ix, rI, ne_eq]
    refine C27 hC1 hn1 h1.1 (by omega) ?_ ?_
    · intro x S' M' f' hk hC' h2 hF'
      have ek : hsR S n = (0, x, S') := hk
      have hC2 := (hC'.tx (p := x) (f := f')).swh
      have hC3 := ((((((hC2.putz (a := 78) (i := 0) (x := 0) (by decide) rfl).putz (a := 78) (i := 9) (x := 0) (by decide) rfl).fil (a := 83) (f := 0) (n := 12) (x := -1) (by decide) rfl).fil (a := 84) (f := 0) (n := 12) (x := 0) (by decide) rfl).fil (a := 85) (f := 0) (n := 6) (x := 0) (by decide) rfl).fil (a := 86) (f := 0) (n := 4) (x := -1) (by decide) rfl).putz (a := 0) (i := 11) (x := 0) (by decide) rfl
      have e := (hP (!s.1, s.2) (hB s) dl).ok (by rw [o_house, if_pos h1, ek, if_pos rfl]; rfl) hC3 (((((((((hF1.trans hF').txm.swh).pw (by decide)).pw (by decide)).fil (by decide)).fil (by decide)).fil (by decide)).fil (by decide)).pw (by decide))
      have eg := hC3.at 3 rfl 1
      have eg2 : su (flS (flS (flS (flS (su (su (swSH S') 78 0 0) 78 9 0) 83 0 12 (-1)) 84 0 12 0) 85 0 6 0) 86 0 4 (-1)) 0 11 0 3 1 = S' 33 1 := rfl
      rw [eg2, pk_po_ne (by decide)] at eg
      simp only [↓x_al_0, ↓x_il_1, ↓x_c, ↓gi_0_1, ↓c_110, ↓pi_0_1, ↓gr_0_2, ↓c_67, ↓gr_0_7, ↓gd_0_4, ↓c_27, ↓x_ne0, ↓gi_2_4, ↓x_isub, ↓x_ir, ↓gd_0_3, ↓x_as_2, ↓x_al_2, ↓gr_0_9, ↓c_1, ↓pi_0_11, ↓gi_hA_1, ↓gi_hB_1, ↓n_78, ↓s_78_0, ↓s_78_48, ↓bk_v, ↓bk_n, ↓bk_r, ↓be_78, ↓pv_i, ↓pv_r, ↓pv_0, ↓pv_l, wz_pk, wz_ti, wz_wz, vI_wz, wz_id, wz_0, List.length_cons, List.length_nil, ↓reduceIte, true_and, and_true, Int.reduceLE, Int.reduceLT, Int.reduceEq, not_true_eq_false, not_false_eq_true, false_or, or_false, true_or, or_true, ite_not, Int.reduceNeg, Int32.reduceToInt, Nat.reduceAdd, Nat.reduceLeDiff, Nat.reduceLT, Nat.reduceEqDiff, Int.reduceAdd, Int.reduceSub, Int.reduceMul, Nat.zero_le, pk_po_ne, pk_po_eq, pk_po_ix, rI, ne_eq, ↓x_swH, ↓C1, eg]
      exact e
    · intro k x S' M0 M' hk hr hC0 hF0 hFl
      have ek : hsR S n = (k, x, S') := hr
      have e := (hP s (hB s) dl).ok (v := k - 10) (by rw [o_house, if_pos h1, ek]; simp only [if_neg hk]) (hC0.fld hFl) ((hF1.trans hF0).trans (FC.fld hFl))
      have e4 := hFl.2.1
      simp only [↓x_al_0, ↓x_il_1, ↓x_c, ↓gi_0_1, ↓c_110, ↓pi_0_1, ↓gr_0_2, ↓c_67, ↓gr_0_7, ↓gd_0_4, ↓c_27, ↓x_ne0, ↓gi_2_4, ↓x_isub, ↓x_ir, ↓gd_0_3, ↓x_as_2, ↓x_al_2, ↓gr_0_9, ↓c_1, ↓pi_0_11, ↓gi_hA_1, ↓gi_hB_1, ↓n_78, ↓s_78_0, ↓s_78_48, ↓bk_v, ↓bk_n, ↓bk_r, ↓be_78, ↓pv_i, ↓pv_r, ↓pv_0, ↓pv_l, wz_pk, wz_ti, wz_wz, vI_wz, wz_id, wz_0, List.length_cons, List.length_nil, ↓reduceIte, true_and, and_true, Int.reduceLE, Int.reduceLT, Int.reduceEq, not_true_eq_false, not_false_eq_true, false_or, or_false, true_or, or_true, ite_not, Int.reduceNeg, Int32.reduceToInt, Nat.reduceAdd, Nat.reduceLeDiff, Nat.reduceLT, Nat.reduceEqDiff, Int.reduceAdd, Int.reduceSub, Int.reduceMul, Nat.zero_le, pk_po_ne, pk_po_eq, pk_po_ix, rI, ne_eq, e4]
      exact e
  · rw [if_neg h1]
    exact (hP s dh dl).no 1 (by rw [o_house, if_neg h1]; rfl) hC.ref (FC.rfl.pw (by decide))
end C50
