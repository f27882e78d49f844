section C35
variable {Q : MOut → MHp → Prop} {X : Nat × (Nat → Int32)} {s : Bool × Bool} {dh dl t : Nat} {M : Mem} {S : St}
theorem K106 {w : Int} (hC : RC S M) (hw : wz w = w) (hP : PC X s dh dl t M Q (o_status S w)) : CL 106 [.ref 0, vI w] (mkh X s dh dl t M) Q := by
  have e := hP.ok (by rw [o_status]) hC FC.rfl
  simp only [↓x_il_1, ↓x_lt0, ↓x_c, ↓x_le, ↓x_go, ↓x_al_0, ↓gr_0_17, ↓x_ir, ↓ld_105, ↓n_106, ↓s_106_0, ↓s_106_9, ↓s_106_13, ↓s_106_19, ↓pv_i, ↓pv_r, ↓pv_0, ↓pv_l, wz_pk, wz_ti, wz_wz, vI_wz, wz_id, wz_0, List.length_cons, List.length_nil, ↓reduceIte, true_and, and_true, Int.reduceLE, Int.reduceLT, Int.reduceEq, not_true_eq_false, not_false_eq_true, false_or, or_false, true_or, or_true, ite_not, Int.reduceNeg, Int32.reduceToInt, Nat.reduceAdd, Nat.reduceLeDiff, Nat.reduceLT, Nat.reduceEqDiff, Int.reduceAdd, Int.reduceSub, Int.reduceMul, Nat.zero_le, pk_po_ne, pk_po_eq, pk_po_ix, rI, ne_eq, hC.at 105 rfl, hC.wzz 105 rfl, hw]
  grind
theorem K107 {w : Int} (hC : RC S M) (hw : wz w = w) (hP : PC X s dh dl t M Q (o_count S w)) : CL 107 [.ref 0, vI w] (mkh X s dh dl t M) Q := by
  have e := hP.ok (by rw [o_count]) hC FC.rfl
  simp only [↓x_il_1, ↓w_8, ↓x_al_0, ↓gi_0_11, ↓x_ir, ↓gi_0_1, ↓x_c, ↓n_107, ↓s_107_0, ↓s_107_28, ↓s_107_33, ↓s_107_38, ↓pv_i, ↓pv_r, ↓pv_0, ↓pv_l, wz_pk, wz_ti, wz_wz, vI_wz, wz_id, wz_0, List.length_cons, List.length_nil, ↓reduceIte, true_and, and_true, Int.reduceLE, Int.reduceLT, Int.reduceEq, not_true_eq_false, not_false_eq_true, false_or, or_false, true_or, or_true, ite_not, Int.reduceNeg, Int32.reduceToInt, Nat.reduceAdd, Nat.reduceLeDiff, Nat.reduceLT, Nat.reduceEqDiff, Int.reduceAdd, Int.reduceSub, Int.reduceMul, Nat.zero_le, pk_po_ne, pk_po_eq, pk_po_ix, rI, ne_eq, hC.at 0 rfl, hC.wzz 0 rfl, hw]
  grind
theorem K80 (hC : RC S M) (hP : PC X s dh dl t M Q (o_fault S)) : CL 80 [.ref 0] (mkh X s dh dl t M) Q := by
  have e := hP.ok (by rw [o_fault]) hC FC.rfl
  simp only [↓x_al_0, ↓gr_0_2, ↓gi_2_5, ↓x_ir, ↓n_80, ↓s_80_0, ↓pv_i, ↓pv_r, ↓pv_0, ↓pv_l, wz_pk, wz_ti, wz_wz, vI_wz, wz_id, wz_0, List.length_cons, List.length_nil, ↓reduceIte, true_and, and_true, Int.reduceLE, Int.reduceLT, Int.reduceEq, not_true_eq_false, not_false_eq_true, false_or, or_false, true_or, or_true, ite_not, Int.reduceNeg, Int32.reduceToInt, Nat.reduceAdd, Nat.reduceLeDiff, Nat.reduceLT, Nat.reduceEqDiff, Int.reduceAdd, Int.reduceSub, Int.reduceMul, Nat.zero_le, pk_po_ne, pk_po_eq, pk_po_ix, rI, ne_eq, hC.at2]
  exact e
theorem K100 (hC : RC S M) (hP : PC X s dh dl t M Q (o_forget S)) : CL 100 [.ref 0] (mkh X s dh dl t M) Q := by
  have e := hP.ok (by rw [o_forget]) (hC.putz (a := 78) (i := 9) (x := 0) (by decide) wz_0) (FC.rfl.pw (by decide))
  simp only [↓x_al_0, ↓gr_0_9, ↓gi_78_9, ↓x_is_1, ↓x_c, ↓pi_78_9, ↓x_il_1, ↓x_ir, ↓n_100, ↓s_100_0, ↓pv_i, ↓pv_r, ↓pv_0, ↓pv_l, wz_pk, wz_ti, wz_wz, vI_wz, wz_id, wz_0, List.length_cons, List.length_nil, ↓reduceIte, true_and, and_true, Int.reduceLE, Int.reduceLT, Int.reduceEq, not_true_eq_false, not_false_eq_true, false_or, or_false, true_or, or_true, ite_not, Int.reduceNeg, Int32.reduceToInt, Nat.reduceAdd, Nat.reduceLeDiff, Nat.reduceLT, Nat.reduceEqDiff, Int.reduceAdd, Int.reduceSub, Int.reduceMul, Nat.zero_le, pk_po_ne, pk_po_eq, pk_po_ix, rI, ne_eq, hC.at 78 rfl, hC.wzz 78 rfl]
  exact e
theorem K93 {p k : Int} (hC : RC S M) (hH : hou S) (hI : crs S 78) (hp : wz p = p) (hk : wz k = k) (hP : PC X s dh dl t M Q (o_stage S p k)) : CL 93 [.ref 0, vI p, vI k] (mkh X s dh dl t M) Q := by
  have h1 := hH.np
  simp only [↓x_al_0, ↓x_il_1, ↓gd_0_3, ↓gi_hA_0, ↓gi_hB_0, ↓c_109, ↓x_il_2, ↓x_c, ↓c_110, ↓gr_0_9, ↓gr_78_8, ↓x_is_3, ↓x_il_3, ↓x_gt, ↓x_ir, ↓c_23_hA, ↓x_isub, ↓ld_86, ↓st_86, ↓n_93, ↓s_93_0, ↓s_93_36, ↓bk_v, ↓bk_n, ↓bk_r, ↓be_93, ↓pv_i, ↓pv_r, ↓pv_0, ↓pv_l, wz_pk, wz_ti, wz_wz, vI_wz, wz_id, wz_0, List.length_cons, List.length_nil, ↓reduceIte, true_and, and_true, Int.reduceLE, Int.reduceLT, Int.reduceEq, not_true_eq_false, not_false_eq_true, false_or, or_false, true_or, or_true, ite_not, Int.reduceNeg, Int32.reduceToInt, Nat.reduceAdd, Nat.reduceLeDiff, Nat.reduceLT, Nat.reduceEqDiff, Int.reduceAdd, Int.reduceSub, Int.reduceMul, Nat.zero_le, pk_po_ne, pk_po_eq, pk_po_ix, rI, ne_eq, hC.at 3 rfl, hC.wzz 3 rfl, hC.at 86 rfl, hC.wzz 86 rfl, ↓C109 hC, ↓C110 hC, hp, hk]
  by_cases h2 : 0 ≤ p ∧ p < S 3 0
  · rw [if_pos h2]
    have h3 := c78_stage hI p h2.1 (by omega)
    by_cases h : 0 ≤ k ∧ k ≤ 3
    · rw [if_pos h]
      by_cases h4 : k ≤ S 86 p
      · have e := hP.ok (by rw [o_stage, if_pos h2, if_pos h, if_pos h4]) hC FC.rfl
        grind
      · have e := hP.ok (by rw [o_stage, if_pos h2, if_pos h, if_neg h4]) (M' := po M 86 p k) (hC.putz (by decide) hk) (FC.rfl.pw (by decide))
        have hC2 := hC.putz (a := 86) (i := p) (x := k) (by decide) hk
        refine ⟨⟨by omega, by omega⟩, ?_⟩
        rw [if_pos (by omega)]
        refine ⟨⟨by omega, by omega⟩, ?_⟩
        rw [C23 hC2 (by omega) (by omega)]
        simp only [↓x_al_0, ↓x_il_1, ↓gd_0_3, ↓gi_hA_0, ↓gi_hB_0, ↓c_109, ↓x_il_2, ↓x_c, ↓c_110, ↓gr_0_9, ↓gr_78_8, ↓x_is_3, ↓x_il_3, ↓x_gt, ↓x_ir, ↓c_23_hA, ↓x_isub, ↓ld_86, ↓st_86, ↓n_93, ↓s_93_0, ↓s_93_36, ↓bk_v, ↓bk_n, ↓bk_r, ↓be_93, ↓pv_i, ↓pv_r, ↓pv_0, ↓pv_l, wz_pk, wz_ti, wz_wz, vI_wz, wz_id, wz_0, List.length_cons, List.length_nil, ↓reduceIte, true_and, and_true, Int.reduceLE, Int.reduceLT, Int.reduceEq, not_true_eq_false, not_false_eq_true, false_or, or_false, true_or, or_true, ite_not, Int.reduceNeg, Int32.reduceToInt, Nat.reduceAdd, Nat.reduceLeDiff, Nat.reduceLT, Nat.reduceEqDiff, Int.reduceAdd, Int.reduceSub, Int.reduceMul, Nat.zero_le, pk_po_ne, pk_po_eq, pk_po_ix, rI, ne_eq]
        rw [C23 hC2 (by omega) (by omega)]
        simp only [↓x_al_0, ↓x_il_1, ↓gd_0_3, ↓gi_hA_0, ↓gi_hB_0, ↓c_109, ↓x_il_2, ↓x_c, ↓c_110, ↓gr_0_9, ↓gr_78_8, ↓x_is_3, ↓x_il_3, ↓x_gt, ↓x_ir, ↓c_23_hA, ↓x_isub, ↓ld_86, ↓st_86, ↓n_93, ↓s_93_0, ↓s_93_36, ↓bk_v, ↓bk_n, ↓bk_r, ↓be_93, ↓pv_i, ↓pv_r, ↓pv_0, ↓pv_l, wz_pk, wz_ti, wz_wz, vI_wz, wz_id, wz_0, List.length_cons, List.length_nil, ↓reduceIte, true_and, and_true, Int.reduceLE, Int.reduceLT, Int.reduceEq, not_true_eq_false, not_false_eq_true, false_or, or_false, true_or, or_true, ite_not, Int.reduceNeg, Int32.reduceToInt, Nat.reduceAdd, Nat.reduceLeDiff, Nat.reduceLT, Nat.reduceEqDiff, Int.reduceAdd, Int.reduceSub, Int.reduceMul, Nat.zero_le, pk_po_ne, pk_po_eq, pk_po_ix, rI, ne_eq]
        have e2 : ∀ j, feesTo (su S 86 p k) j = feesTo S j := fun j => by unfold feesTo su; simp
        rw [e2, e2]
        exact e
    · rw [if_neg h]
      exact hP.no 1 (by rw [o_stage, if_pos h2, if_neg h]; rfl) hC.ref (FC.rfl.pw (by decide))
  · rw [if_neg h2]
    exact hP.no 0 (by rw [o_stage, if_neg h2]; rfl) hC.ref (FC.rfl.pw (by decide))
theorem C111 {d g m o : Int} (hC : RC S M) (hd : wz d = d) (hg : wz g = g) (hm : wz m = m) (ho : wz o = o) : CL 111 [.ref 0, vI d, vI g, vI m, vI o] (mkh X s dh dl t M) Q ↔ if (0 ≤ d ∧ d < S 3 2) ∧ (0 ≤ g ∧ g < S 3 1) then (if (0 ≤ m ∧ m ≤ 9999) ∧ (0 ≤ o ∧ o ≤ 2) then Q (.inl none) (mkh X s dh dl t M) else Q (.inr 1) (mkh X s dh dl (t + 1) (po M 105 1 (S 105 1 + 1)))) else Q (.inr 0) (mkh X s dh dl (t + 1) (po M 105 0 (S 105 0 + 1))) := by
  simp only [↓x_al_0, ↓x_il_1, ↓gd_0_3, ↓gi_hA_2, ↓gi_hB_2, ↓c_109, ↓x_il_2, ↓gi_hA_1, ↓gi_hB_1, ↓x_il_3, ↓x_c, ↓c_110, ↓x_il_4, ↓x_rt, ↓n_111, ↓s_111_0, ↓bk_v, ↓bk_n, ↓bk_r, ↓be_111, ↓pv_i, ↓pv_r, ↓pv_0, ↓pv_l, wz_pk, wz_ti, wz_wz, vI_wz, wz_id, wz_0, List.length_cons, List.length_nil, ↓reduceIte, true_and, and_true, Int.reduceLE, Int.reduceLT, Int.reduceEq, not_true_eq_false, not_false_eq_true, false_or, or_false, true_or, or_true, ite_not, Int.reduceNeg, Int32.reduceToInt, Nat.reduceAdd, Nat.reduceLeDiff, Nat.reduceLT, Nat.reduceEqDiff, Int.reduceAdd, Int.reduceSub, Int.reduceMul, Nat.zero_le, pk_po_ne, pk_po_eq, pk_po_ix, rI, ne_eq, hC.at 3 rfl, hC.wzz 3 rfl, ↓C109 hC, ↓C110 hC, hd, hg, hm, ho]
  grind
theorem C112 {m : Int} (hC : RC S M) (hI : crs S 78) (hm : wz m = m) : CL 112 [.ref 0, vI m] (mkh X s dh dl t M) Q ↔ if m < lastMin S then Q (.inr 2) (mkh X s dh dl (t + 1) (po M 105 2 (S 105 2 + 1))) else Q (.inl none) (mkh X s dh dl t M) := by
  have h1 := c78_am hI
  have h2 := hI.acts
  have h3 : wz (lastMin S) = lastMin S := by
    unfold lastMin
    split
    · exact hC.wzz 81 rfl _
    · rfl
  simp only [↓x_il_1, ↓x_al_0, ↓gr_0_9, ↓c_5, ↓x_ge, ↓gr_0_17, ↓x_c, ↓x_dup2, ↓x_iadd, ↓x_thr, ↓x_rt, ↓ld_105, ↓st_105, ↓n_112, ↓s_112_0, ↓s_112_32, ↓bk_v, ↓bk_n, ↓bk_r, ↓be_112, ↓pv_i, ↓pv_r, ↓pv_0, ↓pv_l, wz_pk, wz_ti, wz_wz, vI_wz, wz_id, wz_0, List.length_cons, List.length_nil, ↓reduceIte, true_and, and_true, Int.reduceLE, Int.reduceLT, Int.reduceEq, not_true_eq_false, not_false_eq_true, false_or, or_false, true_or, or_true, ite_not, Int.reduceNeg, Int32.reduceToInt, Nat.reduceAdd, Nat.reduceLeDiff, Nat.reduceLT, Nat.reduceEqDiff, Int.reduceAdd, Int.reduceSub, Int.reduceMul, Nat.zero_le, pk_po_ne, pk_po_eq, pk_po_ix, rI, ne_eq, hC.at 105 rfl, hC.wzz 105 rfl, ↓C5 hC hI, hm, h3]
  grind
theorem K87 {d g m o : Int} (hC : RC S M) (hH : hou S) (hL : wfl S) (hd : wz d = d) (hg : wz g = g) (hm : wz m = m) (ho : wz o = o) (hP : PC X s dh dl t M Q (o_bars S d g m o)) : CL 87 [.ref 0, vI d, vI g, vI m, vI o] (mkh X s dh dl t M) Q := by
  simp only [↓x_al_0, ↓x_il_1, ↓x_il_2, ↓x_il_3, ↓x_il_4, ↓c_111, ↓c_114, ↓x_ir, ↓n_87, ↓s_87_0, ↓bk_v, ↓bk_n, ↓bk_r, ↓be_87, ↓pv_i, ↓pv_r, ↓pv_0, ↓pv_l, wz_pk, wz_ti, wz_wz, vI_wz, wz_id, wz_0, List.length_cons, List.length_nil, ↓reduceIte, true_and, and_true, Int.reduceLE, Int.reduceLT, Int.reduceEq, not_true_eq_false, not_false_eq_true, false_or, or_false, true_or, or_true, ite_not, Int.reduceNeg, Int32.reduceToInt, Nat.reduceAdd, Nat.reduceLeDiff, Nat.reduceLT, Nat.reduceEqDiff, Int.reduceAdd, Int.reduceSub, Int.reduceMul, Nat.zero_le, pk_po_ne, pk_po_eq, pk_po_ix, rI, ne_eq, ↓C111 hC hd hg hm ho]
  by_cases h1 : (0 ≤ d ∧ d < S 3 2) ∧ (0 ≤ g ∧ g < S 3 1)
  · rw [if_pos h1]
    by_cases h2 : (0 ≤ m ∧ m ≤ 9999) ∧ (0 ≤ o ∧ o ≤ 2)
    · rw [if_pos h2]
      refine C114 hC hH hL h1.1 h1.2 h2.1 h2.2 ?_
      intro M1 f1
      simp only [↓x_al_0, ↓x_il_1, ↓x_il_2, ↓x_il_3, ↓x_il_4, ↓c_111, ↓c_114, ↓x_ir, ↓n_87, ↓s_87_0, ↓bk_v, ↓bk_n, ↓bk_r, ↓be_87, ↓pv_i, ↓pv_r, ↓pv_0, ↓pv_l, wz_pk, wz_ti, wz_wz, vI_wz, wz_id, wz_0, List.length_cons, List.length_nil, ↓reduceIte, true_and, and_true, Int.reduceLE, Int.reduceLT, Int.reduceEq, not_true_eq_false, not_false_eq_true, false_or, or_false, true_or, or_true, ite_not, Int.reduceNeg, Int32.reduceToInt, Nat.reduceAdd, Nat.reduceLeDiff, Nat.reduceLT, Nat.reduceEqDiff, Int.reduceAdd, Int.reduceSub, Int.reduceMul, Nat.zero_le, pk_po_ne, pk_po_eq, pk_po_ix, rI, ne_eq]
      exact hP.ok (by rw [o_bars, tkR, if_pos h1, if_pos h2]) (hC.fr2 (n := 68) (m := 91) rfl (by decide) rfl (by decide) f1) (FC.fr2 (by decide) (by decide) f1)
    · rw [if_neg h2]
      exact hP.no 1 (by rw [o_bars, tkR, if_pos h1, if_neg h2]; rfl) hC.ref (FC.rfl.pw (by decide))
  · rw [if_neg h1]
    exact hP.no 0 (by rw [o_bars, tkR, if_neg h1]; rfl) hC.ref (FC.rfl.pw (by decide))
theorem K88 {d g m o : Int} (hC : RC S M) (hH : hou S) (hL : wfl S) (hd : wz d = d) (hg : wz g = g) (hm : wz m = m) (ho : wz o = o) (hP : PC X s dh dl t M Q (o_late S d g m o)) : CL 88 [.ref 0, vI d, vI g, vI m, vI o] (mkh X s dh dl t M) Q := by
  simp only [↓x_al_0, ↓x_il_1, ↓x_il_2, ↓x_il_3, ↓x_il_4, ↓c_111, ↓c_115, ↓x_ir, ↓n_88, ↓s_88_0, ↓bk_v, ↓bk_n, ↓bk_r, ↓be_88, ↓pv_i, ↓pv_r, ↓pv_0, ↓pv_l, wz_pk, wz_ti, wz_wz, vI_wz, wz_id, wz_0, List.length_cons, List.length_nil, ↓reduceIte, true_and, and_true, Int.reduceLE, Int.reduceLT, Int.reduceEq, not_true_eq_false, not_false_eq_true, false_or, or_false, true_or, or_true, ite_not, Int.reduceNeg, Int32.reduceToInt, Nat.reduceAdd, Nat.reduceLeDiff, Nat.reduceLT, Nat.reduceEqDiff, Int.reduceAdd, Int.reduceSub, Int.reduceMul, Nat.zero_le, pk_po_ne, pk_po_eq, pk_po_ix, rI, ne_eq, ↓C111 hC hd hg hm ho]
  by_cases h1 : (0 ≤ d ∧ d < S 3 2) ∧ (0 ≤ g ∧ g < S 3 1)
  · rw [if_pos h1]
    by_cases h2 : (0 ≤ m ∧ m ≤ 9999) ∧ (0 ≤ o ∧ o ≤ 2)
    · rw [if_pos h2]
      refine C115 hC hH hL h1.1 h1.2 h2.1 h2.2 ?_
      intro M1 f1
      simp only [↓x_al_0, ↓x_il_1, ↓x_il_2, ↓x_il_3, ↓x_il_4, ↓c_111, ↓c_115, ↓x_ir, ↓n_88, ↓s_88_0, ↓bk_v, ↓bk_n, ↓bk_r, ↓be_88, ↓pv_i, ↓pv_r, ↓pv_0, ↓pv_l, wz_pk, wz_ti, wz_wz, vI_wz, wz_id, wz_0, List.length_cons, List.length_nil, ↓reduceIte, true_and, and_true, Int.reduceLE, Int.reduceLT, Int.reduceEq, not_true_eq_false, not_false_eq_true, false_or, or_false, true_or, or_true, ite_not, Int.reduceNeg, Int32.reduceToInt, Nat.reduceAdd, Nat.reduceLeDiff, Nat.reduceLT, Nat.reduceEqDiff, Int.reduceAdd, Int.reduceSub, Int.reduceMul, Nat.zero_le, pk_po_ne, pk_po_eq, pk_po_ix, rI, ne_eq]
      exact hP.ok (by rw [o_late, tkR, if_pos h1, if_pos h2]) (hC.fr2 (n := 68) (m := 91) rfl (by decide) rfl (by decide) f1) (FC.fr2 (by decide) (by decide) f1)
    · rw [if_neg h2]
      exact hP.no 1 (by rw [o_late, tkR, if_pos h1, if_neg h2]; rfl) hC.ref (FC.rfl.pw (by decide))
  · rw [if_neg h1]
    exact hP.no 0 (by rw [o_late, tkR, if_neg h1]; rfl) hC.ref (FC.rfl.pw (by decide))
theorem K89 {r d g m o : Int} (hC : RC S M) (hH : hou S) (hL : wfl S) (hr : wz r = r) (hd : wz d = d) (hg : wz g = g) (hm : wz m = m) (ho : wz o = o) (hP : PC X s dh dl t M Q (o_isSo S r d g m o)) : CL 89 [.ref 0, vI r, vI d, vI g, vI m, vI o] (mkh X s dh dl t M) Q := by
  simp only [↓x_al_0, ↓x_il_1, ↓gd_0_5, ↓gi_lA_0, ↓gi_lB_0, ↓c_109, ↓x_il_2, ↓x_il_3, ↓x_il_4, ↓x_il_5, ↓c_111, ↓c_116, ↓gr_0_12, ↓c_44_lA, ↓x_irz, ↓n_89, ↓s_89_0, ↓bk_v, ↓bk_n, ↓bk_r, ↓be_89, ↓pv_i, ↓pv_r, ↓pv_0, ↓pv_l, wz_pk, wz_ti, wz_wz, vI_wz, wz_id, wz_0, List.length_cons, List.length_nil, ↓reduceIte, true_and, and_true, Int.reduceLE, Int.reduceLT, Int.reduceEq, not_true_eq_false, not_false_eq_true, false_or, or_false, true_or, or_true, ite_not, Int.reduceNeg, Int32.reduceToInt, Nat.reduceAdd, Nat.reduceLeDiff, Nat.reduceLT, Nat.reduceEqDiff, Int.reduceAdd, Int.reduceSub, Int.reduceMul, Nat.zero_le, pk_po_ne, pk_po_eq, pk_po_ix, rI, ne_eq, hC.at 63 rfl, hC.wzz 63 rfl, ↓C109 hC, ↓C111 hC hd hg hm ho, hr]
  by_cases h0 : 0 ≤ r ∧ r < S 63 0
  · rw [if_pos h0]
    by_cases h1 : (0 ≤ d ∧ d < S 3 2) ∧ (0 ≤ g ∧ g < S 3 1)
    · rw [if_pos h1]
      by_cases h2 : (0 ≤ m ∧ m ≤ 9999) ∧ (0 ≤ o ∧ o ≤ 2)
      · rw [if_pos h2]
        refine C116 hC hH h1.1 h1.2 h2.1 h2.2 h2.1 ?_
        intro M1 f1 f2
        have hC1 := hC.fr (n := 91) rfl (by decide) f1
        simp only [↓x_al_0, ↓x_il_1, ↓gd_0_5, ↓gi_lA_0, ↓gi_lB_0, ↓c_109, ↓x_il_2, ↓x_il_3, ↓x_il_4, ↓x_il_5, ↓c_111, ↓c_116, ↓gr_0_12, ↓c_44_lA, ↓x_irz, ↓n_89, ↓s_89_0, ↓bk_v, ↓bk_n, ↓bk_r, ↓be_89, ↓pv_i, ↓pv_r, ↓pv_0, ↓pv_l, wz_pk, wz_ti, wz_wz, vI_wz, wz_id, wz_0, List.length_cons, List.length_nil, ↓reduceIte, true_and, and_true, Int.reduceLE, Int.reduceLT, Int.reduceEq, not_true_eq_false, not_false_eq_true, false_or, or_false, true_or, or_true, ite_not, Int.reduceNeg, Int32.reduceToInt, Nat.reduceAdd, Nat.reduceLeDiff, Nat.reduceLT, Nat.reduceEqDiff, Int.reduceAdd, Int.reduceSub, Int.reduceMul, Nat.zero_le, pk_po_ne, pk_po_eq, pk_po_ix, rI, ne_eq]
        refine C44 hC1 hL h0 f2 ?_
        intro M2 f3
        simp only [↓x_al_0, ↓x_il_1, ↓gd_0_5, ↓gi_lA_0, ↓gi_lB_0, ↓c_109, ↓x_il_2, ↓x_il_3, ↓x_il_4, ↓x_il_5, ↓c_111, ↓c_116, ↓gr_0_12, ↓c_44_lA, ↓x_irz, ↓n_89, ↓s_89_0, ↓bk_v, ↓bk_n, ↓bk_r, ↓be_89, ↓pv_i, ↓pv_r, ↓pv_0, ↓pv_l, wz_pk, wz_ti, wz_wz, vI_wz, wz_id, wz_0, List.length_cons, List.length_nil, ↓reduceIte, true_and, and_true, Int.reduceLE, Int.reduceLT, Int.reduceEq, not_true_eq_false, not_false_eq_true, false_or, or_false, true_or, or_true, ite_not, Int.reduceNeg, Int32.reduceToInt, Nat.reduceAdd, Nat.reduceLeDiff, Nat.reduceLT, Nat.reduceEqDiff, Int.reduceAdd, Int.reduceSub, Int.reduceMul, Nat.zero_le, pk_po_ne, pk_po_eq, pk_po_ix, rI, ne_eq]
        have e := hP.ok (M' := M2) (by rw [o_isSo, if_pos h0, tkR, if_pos h1, if_pos h2]) (hC1.fr (n := 68) rfl (by decide) f3) ((FC.fr (by decide) f1).trans (FC.fr (by decide) f3))
        refine ⟨?_, e⟩
        unfold bi
        split <;> simp [wz_0, show wz 1 = 1 from rfl]
      · rw [if_neg h2]
        exact hP.no 1 (by rw [o_isSo, if_pos h0, tkR, if_pos h1, if_neg h2]; rfl) hC.ref (FC.rfl.pw (by decide))
    · rw [if_neg h1]
      exact hP.no 0 (by rw [o_isSo, if_pos h0, tkR, if_neg h1]; rfl) hC.ref (FC.rfl.pw (by decide))
  · rw [if_neg h0]
    exact hP.no 0 (by rw [o_isSo, if_neg h0]; rfl) hC.ref (FC.rfl.pw (by decide))
end C35
