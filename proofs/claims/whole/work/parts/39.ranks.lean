section C39
variable {Q : MOut → MHp → Prop} {X : Nat × (Nat → Int32)} {s : Bool × Bool} {dh dl t : Nat} {M : Mem} {S : St}
theorem C201 {a n d f : Nat} {v : Int} (hS : SH (swp s a) = (0, n, d, f)) (ha : a < NCe) (hn : n ≤ 1000) : CL 201 [.ref a, vI v] (mkh X s dh dl t M) Q ↔ Q (.inl none) (mkh X s dh dl t (flm M d f n v)) := by
  have key : EX 201 (sx 201 5) [.ref a, vI v, vI ((0 : Nat) : Int), vI n] [] (mkh X s dh dl t (flm M d f ((0 : Nat) : Int) v)) Q ↔ Q (.inl none) (mkh X s dh dl t (flm M d f n v)) := by
    refine lp (n := n) (fun i => EX 201 (sx 201 5) [.ref a, vI v, vI (i : Int), vI n] [] (mkh X s dh dl t (flm M d f (i : Int) v)) Q ↔ _) ?_ ?_
    · rw [s_201_5]
      simp (disch := omega) only [↓x_c, ↓x_is_2, ↓x_al_0, ↓x_is_3, ↓x_il_2, ↓x_il_3, ↓x_ge, ↓x_il_1, ↓x_inc_2, ↓x_go, ↓x_rt, ↓n_201, ↓s_201_0, ↓s_201_20, ↓pv_i, ↓pv_r, ↓pv_0, ↓pv_l, wz_pk, wz_ti, wz_wz, vI_wz, wz_id, wz_0, List.length_cons, List.length_nil, ↓reduceIte, true_and, and_true, Int.reduceLE, Int.reduceLT, Int.reduceEq, not_true_eq_false, not_false_eq_true, false_or, or_false, true_or, or_true, ite_not, Int.reduceNeg, Int32.reduceToInt, Nat.reduceAdd, Nat.reduceLeDiff, Nat.reduceLT, Nat.reduceEqDiff, Int.reduceAdd, Int.reduceSub, Int.reduceMul, Nat.zero_le, pk_po_ne, pk_po_eq, pk_po_ix, rI, ne_eq, Int.le_refl, if_true]
    · intro i hi ih
      rw [s_201_5]
      have e1 : ¬ (n : Int) ≤ i := by omega
      have e2 : (i : Int) < n := by omega
      have e3 : (0 : Int) ≤ i := by omega
      simp (disch := omega) only [↓x_c, ↓x_is_2, ↓x_al_0, ↓x_is_3, ↓x_il_2, ↓x_il_3, ↓x_ge, ↓x_il_1, ↓x_inc_2, ↓x_go, ↓x_rt, ↓n_201, ↓s_201_0, ↓s_201_20, ↓pv_i, ↓pv_r, ↓pv_0, ↓pv_l, wz_pk, wz_ti, wz_wz, vI_wz, wz_id, wz_0, List.length_cons, List.length_nil, ↓reduceIte, true_and, and_true, Int.reduceLE, Int.reduceLT, Int.reduceEq, not_true_eq_false, not_false_eq_true, false_or, or_false, true_or, or_true, ite_not, Int.reduceNeg, Int32.reduceToInt, Nat.reduceAdd, Nat.reduceLeDiff, Nat.reduceLT, Nat.reduceEqDiff, Int.reduceAdd, Int.reduceSub, Int.reduceMul, Nat.zero_le, pk_po_ne, pk_po_eq, pk_po_ix, rI, ne_eq, ↓x_iast_g hS ha, e1, e2, e3, if_false]
      rw [flm_s e3]
      exact ih
  rw [show ((0 : Nat) : Int) = 0 from rfl, flm_0] at key
  simp only [↓x_c, ↓x_is_2, ↓x_al_0, ↓x_is_3, ↓x_il_2, ↓x_il_3, ↓x_ge, ↓x_il_1, ↓x_inc_2, ↓x_go, ↓x_rt, ↓n_201, ↓s_201_0, ↓s_201_20, ↓pv_i, ↓pv_r, ↓pv_0, ↓pv_l, wz_pk, wz_ti, wz_wz, vI_wz, wz_id, wz_0, List.length_cons, List.length_nil, ↓reduceIte, true_and, and_true, Int.reduceLE, Int.reduceLT, Int.reduceEq, not_true_eq_false, not_false_eq_true, false_or, or_false, true_or, or_true, ite_not, Int.reduceNeg, Int32.reduceToInt, Nat.reduceAdd, Nat.reduceLeDiff, Nat.reduceLT, Nat.reduceEqDiff, Int.reduceAdd, Int.reduceSub, Int.reduceMul, Nat.zero_le, pk_po_ne, pk_po_eq, pk_po_ix, rI, ne_eq, ↓x_alen_g hS ha]
  exact key
theorem C62 {p : Int} (hC : RC S M) (hH : hou S) (hI : crs S 78) (hp : 0 ≤ p ∧ p < S 3 0) : CL 62 [.ref 92, .ref (hA s), .ref 78, vI p] (mkh X s dh dl t M) Q ↔ Q (rI (coin S p)) (mkh X s dh dl t M) := by
  have h1 := hH.ng
  have h2 := hH.np
  have key : ∀ bb, (EX 62 (sx 62 6) [.ref 92, .ref (hA s), .ref 78, vI p, vI (sm (fun g => if ¬ S 83 g = -1 ∧ isFor S g p = true then share S g p (S 83 g) else 0) (0 : Nat)), vI ((0 : Nat) : Int), bb] [] (mkh X s dh dl t M) Q ↔ Q (rI (coin S p)) (mkh X s dh dl t M)) := by
    refine lp (n := (S 3 1).toNat) (fun n => ∀ bb, (EX 62 (sx 62 6) [.ref 92, .ref (hA s), .ref 78, vI p, vI (sm (fun g => if ¬ S 83 g = -1 ∧ isFor S g p = true then share S g p (S 83 g) else 0) n), vI n, bb] [] (mkh X s dh dl t M) Q ↔ _)) ?_ ?_
    · intro bb
      have e1 : S 3 1 ≤ (S 3 1).toNat := by omega
      rw [s_62_6]
      simp (disch := omega) only [↓x_c, ↓x_is_4, ↓x_is_5, ↓x_il_5, ↓x_al_1, ↓gi_hA_1, ↓gi_hB_1, ↓x_ge, ↓x_al_2, ↓gr_78_5, ↓x_is_6, ↓x_il_6, ↓x_eq, ↓x_il_3, ↓c_8, ↓x_eq0, ↓x_il_4, ↓c_21_hA, ↓x_iadd, ↓x_inc_5, ↓x_go, ↓x_ir, ↓ld_83, ↓n_62, ↓s_62_0, ↓s_62_55, ↓s_62_61, ↓bk_v, ↓bk_n, ↓bk_r, ↓pv_i, ↓pv_r, ↓pv_0, ↓pv_l, wz_pk, wz_ti, wz_wz, vI_wz, wz_id, wz_0, List.length_cons, List.length_nil, ↓reduceIte, true_and, and_true, Int.reduceLE, Int.reduceLT, Int.reduceEq, not_true_eq_false, not_false_eq_true, false_or, or_false, true_or, or_true, ite_not, Int.reduceNeg, Int32.reduceToInt, Nat.reduceAdd, Nat.reduceLeDiff, Nat.reduceLT, Nat.reduceEqDiff, Int.reduceAdd, Int.reduceSub, Int.reduceMul, Nat.zero_le, pk_po_ne, pk_po_eq, pk_po_ix, rI, ne_eq, hC.at 3 rfl, hC.wzz 3 rfl, e1, if_true]
      rfl
    · intro n hn ih bb
      have e1 : ¬ S 3 1 ≤ n := by omega
      have e2 : (n : Int) < 12 := by omega
      have e3 : (0 : Int) ≤ n := by omega
      have hb := c78_sold hI n e3 e2
      simp only [sm] at ih
      rw [s_62_6]
      by_cases c1 : S 83 n = -1
      · rw [if_neg (by simp [c1]), Int.add_zero] at ih
        simp (disch := omega) only [↓x_c, ↓x_is_4, ↓x_is_5, ↓x_il_5, ↓x_al_1, ↓gi_hA_1, ↓gi_hB_1, ↓x_ge, ↓x_al_2, ↓gr_78_5, ↓x_is_6, ↓x_il_6, ↓x_eq, ↓x_il_3, ↓c_8, ↓x_eq0, ↓x_il_4, ↓c_21_hA, ↓x_iadd, ↓x_inc_5, ↓x_go, ↓x_ir, ↓ld_83, ↓n_62, ↓s_62_0, ↓s_62_55, ↓s_62_61, ↓bk_v, ↓bk_n, ↓bk_r, ↓pv_i, ↓pv_r, ↓pv_0, ↓pv_l, wz_pk, wz_ti, wz_wz, vI_wz, wz_id, wz_0, List.length_cons, List.length_nil, ↓reduceIte, true_and, and_true, Int.reduceLE, Int.reduceLT, Int.reduceEq, not_true_eq_false, not_false_eq_true, false_or, or_false, true_or, or_true, ite_not, Int.reduceNeg, Int32.reduceToInt, Nat.reduceAdd, Nat.reduceLeDiff, Nat.reduceLT, Nat.reduceEqDiff, Int.reduceAdd, Int.reduceSub, Int.reduceMul, Nat.zero_le, pk_po_ne, pk_po_eq, pk_po_ix, rI, ne_eq, hC.at 3 rfl, hC.wzz 3 rfl, hC.at 83 rfl, hC.wzz 83 rfl, e1, e2, e3, if_false, c1, if_true]
        exact ih _
      · by_cases c2 : isFor S n p = true
        · rw [if_pos ⟨c1, c2⟩] at ih
          simp (disch := omega) only [↓x_c, ↓x_is_4, ↓x_is_5, ↓x_il_5, ↓x_al_1, ↓gi_hA_1, ↓gi_hB_1, ↓x_ge, ↓x_al_2, ↓gr_78_5, ↓x_is_6, ↓x_il_6, ↓x_eq, ↓x_il_3, ↓c_8, ↓x_eq0, ↓x_il_4, ↓c_21_hA, ↓x_iadd, ↓x_inc_5, ↓x_go, ↓x_ir, ↓ld_83, ↓n_62, ↓s_62_0, ↓s_62_55, ↓s_62_61, ↓bk_v, ↓bk_n, ↓bk_r, ↓pv_i, ↓pv_r, ↓pv_0, ↓pv_l, wz_pk, wz_ti, wz_wz, vI_wz, wz_id, wz_0, List.length_cons, List.length_nil, ↓reduceIte, true_and, and_true, Int.reduceLE, Int.reduceLT, Int.reduceEq, not_true_eq_false, not_false_eq_true, false_or, or_false, true_or, or_true, ite_not, Int.reduceNeg, Int32.reduceToInt, Nat.reduceAdd, Nat.reduceLeDiff, Nat.reduceLT, Nat.reduceEqDiff, Int.reduceAdd, Int.reduceSub, Int.reduceMul, Nat.zero_le, pk_po_ne, pk_po_eq, pk_po_ix, rI, ne_eq, hC.at 3 rfl, hC.wzz 3 rfl, hC.at 83 rfl, hC.wzz 83 rfl, e1, e2, e3, if_false, c1, ↓C8 hC hI hH, bi_wz, bi_0, c2, Bool.true_eq_false]
          rw [C21 hC hH ⟨by omega, by omega⟩ hp ⟨by omega, by omega⟩]
          simp (disch := omega) only [↓x_c, ↓x_is_4, ↓x_is_5, ↓x_il_5, ↓x_al_1, ↓gi_hA_1, ↓gi_hB_1, ↓x_ge, ↓x_al_2, ↓gr_78_5, ↓x_is_6, ↓x_il_6, ↓x_eq, ↓x_il_3, ↓c_8, ↓x_eq0, ↓x_il_4, ↓c_21_hA, ↓x_iadd, ↓x_inc_5, ↓x_go, ↓x_ir, ↓ld_83, ↓n_62, ↓s_62_0, ↓s_62_55, ↓s_62_61, ↓bk_v, ↓bk_n, ↓bk_r, ↓pv_i, ↓pv_r, ↓pv_0, ↓pv_l, wz_pk, wz_ti, wz_wz, vI_wz, wz_id, wz_0, List.length_cons, List.length_nil, ↓reduceIte, true_and, and_true, Int.reduceLE, Int.reduceLT, Int.reduceEq, not_true_eq_false, not_false_eq_true, false_or, or_false, true_or, or_true, ite_not, Int.reduceNeg, Int32.reduceToInt, Nat.reduceAdd, Nat.reduceLeDiff, Nat.reduceLT, Nat.reduceEqDiff, Int.reduceAdd, Int.reduceSub, Int.reduceMul, Nat.zero_le, pk_po_ne, pk_po_eq, pk_po_ix, rI, ne_eq]
          exact ih _
        · rw [if_neg (by simp [c2]), Int.add_zero] at ih
          have c2' : isFor S n p = false := by simpa using c2
          simp (disch := omega) only [↓x_c, ↓x_is_4, ↓x_is_5, ↓x_il_5, ↓x_al_1, ↓gi_hA_1, ↓gi_hB_1, ↓x_ge, ↓x_al_2, ↓gr_78_5, ↓x_is_6, ↓x_il_6, ↓x_eq, ↓x_il_3, ↓c_8, ↓x_eq0, ↓x_il_4, ↓c_21_hA, ↓x_iadd, ↓x_inc_5, ↓x_go, ↓x_ir, ↓ld_83, ↓n_62, ↓s_62_0, ↓s_62_55, ↓s_62_61, ↓bk_v, ↓bk_n, ↓bk_r, ↓pv_i, ↓pv_r, ↓pv_0, ↓pv_l, wz_pk, wz_ti, wz_wz, vI_wz, wz_id, wz_0, List.length_cons, List.length_nil, ↓reduceIte, true_and, and_true, Int.reduceLE, Int.reduceLT, Int.reduceEq, not_true_eq_false, not_false_eq_true, false_or, or_false, true_or, or_true, ite_not, Int.reduceNeg, Int32.reduceToInt, Nat.reduceAdd, Nat.reduceLeDiff, Nat.reduceLT, Nat.reduceEqDiff, Int.reduceAdd, Int.reduceSub, Int.reduceMul, Nat.zero_le, pk_po_ne, pk_po_eq, pk_po_ix, rI, ne_eq, hC.at 3 rfl, hC.wzz 3 rfl, hC.at 83 rfl, hC.wzz 83 rfl, e1, e2, e3, if_false, c1, ↓C8 hC hI hH, bi_wz, bi_0, c2', if_true]
          exact ih _
  have key := key .null
  simp only [sm, Int.ofNat_zero] at key
  simp only [↓x_c, ↓x_is_4, ↓x_is_5, ↓x_il_5, ↓x_al_1, ↓gi_hA_1, ↓gi_hB_1, ↓x_ge, ↓x_al_2, ↓gr_78_5, ↓x_is_6, ↓x_il_6, ↓x_eq, ↓x_il_3, ↓c_8, ↓x_eq0, ↓x_il_4, ↓c_21_hA, ↓x_iadd, ↓x_inc_5, ↓x_go, ↓x_ir, ↓ld_83, ↓n_62, ↓s_62_0, ↓s_62_55, ↓s_62_61, ↓bk_v, ↓bk_n, ↓bk_r, ↓pv_i, ↓pv_r, ↓pv_0, ↓pv_l, wz_pk, wz_ti, wz_wz, vI_wz, wz_id, wz_0, List.length_cons, List.length_nil, ↓reduceIte, true_and, and_true, Int.reduceLE, Int.reduceLT, Int.reduceEq, not_true_eq_false, not_false_eq_true, false_or, or_false, true_or, or_true, ite_not, Int.reduceNeg, Int32.reduceToInt, Nat.reduceAdd, Nat.reduceLeDiff, Nat.reduceLT, Nat.reduceEqDiff, Int.reduceAdd, Int.reduceSub, Int.reduceMul, Nat.zero_le, pk_po_ne, pk_po_eq, pk_po_ix, rI, ne_eq]
  exact key
theorem C63 {p a : Int} (hC : RC S M) (hH : hou S) (hp : wz p = p) (ha : wz a = a) : CL 63 [.ref 92, .ref (hA s), .ref 78, vI p, vI a] (mkh X s dh dl t M) Q ↔ Q (rI (nw S p a)) (mkh X s dh dl t M) := by
  have h1 := hH.nd
  have key : ∀ bb, (EX 63 (sx 63 6) [.ref 92, .ref (hA s), .ref 78, vI p, vI a, vI (nwN S p a (0 : Nat)), vI ((0 : Nat) : Int), bb] [] (mkh X s dh dl t M) Q ↔ Q (rI (nw S p a)) (mkh X s dh dl t M)) := by
    refine lp (n := (S 3 2).toNat) (fun n => ∀ bb, (EX 63 (sx 63 6) [.ref 92, .ref (hA s), .ref 78, vI p, vI a, vI (nwN S p a n), vI n, bb] [] (mkh X s dh dl t M) Q ↔ _)) ?_ ?_
    · intro bb
      have e1 : S 3 2 ≤ (S 3 2).toNat := by omega
      rw [s_63_6]
      simp (disch := omega) only [↓x_c, ↓x_is_5, ↓x_is_6, ↓x_il_6, ↓x_al_1, ↓gi_hA_2, ↓gi_hB_2, ↓x_ge, ↓gr_hA_12, ↓gr_hB_12, ↓x_il_3, ↓x_ne, ↓x_al_2, ↓gr_78_7, ↓x_ne0, ↓x_go, ↓x_is_7, ↓x_il_7, ↓x_eq0, ↓gr_hA_14, ↓gr_hB_14, ↓x_il_4, ↓x_le, ↓x_il_5, ↓x_eq, ↓x_inc_6, ↓x_ir, ↓ld_85, ↓ld_hA_26, ↓ld_hA_28, ↓ld_hB_26, ↓ld_hB_28, ↓n_63, ↓s_63_0, ↓s_63_40, ↓s_63_41, ↓s_63_78, ↓s_63_87, ↓s_63_93, ↓pv_i, ↓pv_r, ↓pv_0, ↓pv_l, wz_pk, wz_ti, wz_wz, vI_wz, wz_id, wz_0, List.length_cons, List.length_nil, ↓reduceIte, true_and, and_true, Int.reduceLE, Int.reduceLT, Int.reduceEq, not_true_eq_false, not_false_eq_true, false_or, or_false, true_or, or_true, ite_not, Int.reduceNeg, Int32.reduceToInt, Nat.reduceAdd, Nat.reduceLeDiff, Nat.reduceLT, Nat.reduceEqDiff, Int.reduceAdd, Int.reduceSub, Int.reduceMul, Nat.zero_le, pk_po_ne, pk_po_eq, pk_po_ix, rI, ne_eq, hC.at 3 rfl, hC.wzz 3 rfl, e1, if_true]
      rfl
    · intro n hn ih bb
      have e1 : ¬ S 3 2 ≤ n := by omega
      have e2 : (n : Int) < 6 := by omega
      have e3 : (0 : Int) ≤ n := by omega
      have hb := nwN_rng (p := p) (a := a) hH n (by omega)
      simp only [nwN] at ih
      have ih1 := ih (vI 1)
      have ih0 := ih (vI 0)
      clear ih
      rw [s_63_6]
      simp (disch := omega) only [↓x_c, ↓x_is_5, ↓x_is_6, ↓x_il_6, ↓x_al_1, ↓gi_hA_2, ↓gi_hB_2, ↓x_ge, ↓gr_hA_12, ↓gr_hB_12, ↓x_il_3, ↓x_ne, ↓x_al_2, ↓gr_78_7, ↓x_ne0, ↓x_go, ↓x_is_7, ↓x_il_7, ↓x_eq0, ↓gr_hA_14, ↓gr_hB_14, ↓x_il_4, ↓x_le, ↓x_il_5, ↓x_eq, ↓x_inc_6, ↓x_ir, ↓ld_85, ↓ld_hA_26, ↓ld_hA_28, ↓ld_hB_26, ↓ld_hB_28, ↓n_63, ↓s_63_0, ↓s_63_40, ↓s_63_41, ↓s_63_78, ↓s_63_87, ↓s_63_93, ↓pv_i, ↓pv_r, ↓pv_0, ↓pv_l, wz_pk, wz_ti, wz_wz, vI_wz, wz_id, wz_0, List.length_cons, List.length_nil, ↓reduceIte, true_and, and_true, Int.reduceLE, Int.reduceLT, Int.reduceEq, not_true_eq_false, not_false_eq_true, false_or, or_false, true_or, or_true, ite_not, Int.reduceNeg, Int32.reduceToInt, Nat.reduceAdd, Nat.reduceLeDiff, Nat.reduceLT, Nat.reduceEqDiff, Int.reduceAdd, Int.reduceSub, Int.reduceMul, Nat.zero_le, pk_po_ne, pk_po_eq, pk_po_ix, rI, ne_eq, hC.at 3 rfl, hC.wzz 3 rfl, hC.at 29 rfl, hC.wzz 29 rfl, hC.at 31 rfl, hC.wzz 31 rfl, hC.at 85 rfl, hC.wzz 85 rfl, e1, e2, e3, if_false, hp, ha]
      grind [rI]
  have key := key .null
  simp only [↓x_c, ↓x_is_5, ↓x_is_6, ↓x_il_6, ↓x_al_1, ↓gi_hA_2, ↓gi_hB_2, ↓x_ge, ↓gr_hA_12, ↓gr_hB_12, ↓x_il_3, ↓x_ne, ↓x_al_2, ↓gr_78_7, ↓x_ne0, ↓x_go, ↓x_is_7, ↓x_il_7, ↓x_eq0, ↓gr_hA_14, ↓gr_hB_14, ↓x_il_4, ↓x_le, ↓x_il_5, ↓x_eq, ↓x_inc_6, ↓x_ir, ↓ld_85, ↓ld_hA_26, ↓ld_hA_28, ↓ld_hB_26, ↓ld_hB_28, ↓n_63, ↓s_63_0, ↓s_63_40, ↓s_63_41, ↓s_63_78, ↓s_63_87, ↓s_63_93, ↓pv_i, ↓pv_r, ↓pv_0, ↓pv_l, wz_pk, wz_ti, wz_wz, vI_wz, wz_id, wz_0, List.length_cons, List.length_nil, ↓reduceIte, true_and, and_true, Int.reduceLE, Int.reduceLT, Int.reduceEq, not_true_eq_false, not_false_eq_true, false_or, or_false, true_or, or_true, ite_not, Int.reduceNeg, Int32.reduceToInt, Nat.reduceAdd, Nat.reduceLeDiff, Nat.reduceLT, Nat.reduceEqDiff, Int.reduceAdd, Int.reduceSub, Int.reduceMul, Nat.zero_le, pk_po_ne, pk_po_eq, pk_po_ix, rI, ne_eq]
  exact key
/-- who is in a rank is marked -/
theorem C64 {p w : Int} (hC : RC S M) (hH : hou S) (hp : wz p = p) (hw : wz w = w)
    (hQ : ∀ M', fx [94] M M' → (∀ d, 0 ≤ d → d < S 3 2 → pk M' 94 d = bi (inr S p w d)) → Q (rI (owedR S p w)) (mkh X s dh dl t M')) : CL 64 [.ref 92, .ref (hA s), .ref 78, vI p, vI w] (mkh X s dh dl t M) Q := by
  have h1 := hH.nd
  have key : ∀ M', fx [94] M M' → (∀ d, 0 ≤ d → d < ((0 : Nat) : Int) → pk M' 94 d = bi (inr S p w d)) → EX 64 (sx 64 6) [.ref 92, .ref (hA s), .ref 78, vI p, vI w, vI (sm (fun d => if inr S p w d = true then S 30 d else 0) (0 : Nat)), vI ((0 : Nat) : Int)] [] (mkh X s dh dl t M') Q := by
    refine lp (n := (S 3 2).toNat) (fun n => ∀ M', fx [94] M M' → (∀ d, 0 ≤ d → d < (n : Int) → pk M' 94 d = bi (inr S p w d)) → EX 64 (sx 64 6) [.ref 92, .ref (hA s), .ref 78, vI p, vI w, vI (sm (fun d => if inr S p w d = true then S 30 d else 0) n), vI n] [] (mkh X s dh dl t M') Q) ?_ ?_
    · intro M' f hb
      replace hC := hC.fxx f rfl
      have e1 : S 3 2 ≤ (S 3 2).toNat := by omega
      have e := hQ M' f (fun d a b => hb d a (by omega))
      rw [s_64_6]
      simp (disch := omega) only [↓x_c, ↓x_is_5, ↓x_is_6, ↓x_il_6, ↓x_al_1, ↓gi_hA_2, ↓gi_hB_2, ↓x_ge, ↓x_al_0, ↓gr_92_3, ↓gr_hA_12, ↓gr_hB_12, ↓x_il_3, ↓x_ne, ↓x_al_2, ↓gr_78_7, ↓x_ne0, ↓gr_hA_14, ↓gr_hB_14, ↓x_il_4, ↓x_go, ↓x_eq0, ↓x_il_5, ↓gr_hA_13, ↓gr_hB_13, ↓x_iadd, ↓x_inc_6, ↓x_ir, ↓ld_85, ↓st_85, ↓ld_94, ↓st_94, ↓ld_hA_26, ↓st_hA_26, ↓ld_hA_27, ↓st_hA_27, ↓ld_hA_28, ↓st_hA_28, ↓ld_hB_26, ↓st_hB_26, ↓ld_hB_27, ↓st_hB_27, ↓ld_hB_28, ↓st_hB_28, ↓n_64, ↓s_64_0, ↓s_64_58, ↓s_64_59, ↓s_64_82, ↓s_64_88, ↓pv_i, ↓pv_r, ↓pv_0, ↓pv_l, wz_pk, wz_ti, wz_wz, vI_wz, wz_id, wz_0, List.length_cons, List.length_nil, ↓reduceIte, true_and, and_true, Int.reduceLE, Int.reduceLT, Int.reduceEq, not_true_eq_false, not_false_eq_true, false_or, or_false, true_or, or_true, ite_not, Int.reduceNeg, Int32.reduceToInt, Nat.reduceAdd, Nat.reduceLeDiff, Nat.reduceLT, Nat.reduceEqDiff, Int.reduceAdd, Int.reduceSub, Int.reduceMul, Nat.zero_le, pk_po_ne, pk_po_eq, pk_po_ix, rI, ne_eq, hC.at 3 rfl, hC.wzz 3 rfl, e1, if_true]
      exact e
    · intro n hn ih M' f hb
      replace hC := hC.fxx f rfl
      have e1 : ¬ S 3 2 ≤ n := by omega
      have e2 : (n : Int) < 6 := by omega
      have e3 : (0 : Int) ≤ n := by omega
      have ih2 := ih (po M' 94 n (bi (inr S p w n))) (f.pw (by decide)) (fun d a b => by
        rw [pk_po]
        split
        · rename_i h
          rw [h.2, bi_wz]
        · exact hb d a (by omega))
      simp only [sm] at ih2
      clear ih hb hQ
      rw [s_64_6]
      by_cases c1 : inr S p w n = true
      · have c2 := c1
        simp only [inr, decide_eq_true_eq] at c2
        obtain ⟨c3, c4, c5⟩ := c2
        rw [c1] at ih2
        simp only [bi, if_true] at ih2
        simp (disch := omega) only [↓x_c, ↓x_is_5, ↓x_is_6, ↓x_il_6, ↓x_al_1, ↓gi_hA_2, ↓gi_hB_2, ↓x_ge, ↓x_al_0, ↓gr_92_3, ↓gr_hA_12, ↓gr_hB_12, ↓x_il_3, ↓x_ne, ↓x_al_2, ↓gr_78_7, ↓x_ne0, ↓gr_hA_14, ↓gr_hB_14, ↓x_il_4, ↓x_go, ↓x_eq0, ↓x_il_5, ↓gr_hA_13, ↓gr_hB_13, ↓x_iadd, ↓x_inc_6, ↓x_ir, ↓ld_85, ↓st_85, ↓ld_94, ↓st_94, ↓ld_hA_26, ↓st_hA_26, ↓ld_hA_27, ↓st_hA_27, ↓ld_hA_28, ↓st_hA_28, ↓ld_hB_26, ↓st_hB_26, ↓ld_hB_27, ↓st_hB_27, ↓ld_hB_28, ↓st_hB_28, ↓n_64, ↓s_64_0, ↓s_64_58, ↓s_64_59, ↓s_64_82, ↓s_64_88, ↓pv_i, ↓pv_r, ↓pv_0, ↓pv_l, wz_pk, wz_ti, wz_wz, vI_wz, wz_id, wz_0, List.length_cons, List.length_nil, ↓reduceIte, true_and, and_true, Int.reduceLE, Int.reduceLT, Int.reduceEq, not_true_eq_false, not_false_eq_true, false_or, or_false, true_or, or_true, ite_not, Int.reduceNeg, Int32.reduceToInt, Nat.reduceAdd, Nat.reduceLeDiff, Nat.reduceLT, Nat.reduceEqDiff, Int.reduceAdd, Int.reduceSub, Int.reduceMul, Nat.zero_le, pk_po_ne, pk_po_eq, pk_po_ix, rI, ne_eq, hC.at 3 rfl, hC.wzz 3 rfl, hC.at 29 rfl, hC.wzz 29 rfl, hC.at 30 rfl, hC.wzz 30 rfl, hC.at 31 rfl, hC.wzz 31 rfl, hC.at 85 rfl, hC.wzz 85 rfl, e1, e2, e3, if_false, hp, hw, c3, c4, c5, if_true]
        exact ih2
      · have c2 := c1
        simp only [inr, decide_eq_true_eq] at c2
        have c3 : inr S p w n = false := by simpa using c1
        rw [c3] at ih2
        simp only [bi, Bool.false_eq_true, if_false, Int.add_zero] at ih2
        simp (disch := omega) only [↓x_c, ↓x_is_5, ↓x_is_6, ↓x_il_6, ↓x_al_1, ↓gi_hA_2, ↓gi_hB_2, ↓x_ge, ↓x_al_0, ↓gr_92_3, ↓gr_hA_12, ↓gr_hB_12, ↓x_il_3, ↓x_ne, ↓x_al_2, ↓gr_78_7, ↓x_ne0, ↓gr_hA_14, ↓gr_hB_14, ↓x_il_4, ↓x_go, ↓x_eq0, ↓x_il_5, ↓gr_hA_13, ↓gr_hB_13, ↓x_iadd, ↓x_inc_6, ↓x_ir, ↓ld_85, ↓st_85, ↓ld_94, ↓st_94, ↓ld_hA_26, ↓st_hA_26, ↓ld_hA_27, ↓st_hA_27, ↓ld_hA_28, ↓st_hA_28, ↓ld_hB_26, ↓st_hB_26, ↓ld_hB_27, ↓st_hB_27, ↓ld_hB_28, ↓st_hB_28, ↓n_64, ↓s_64_0, ↓s_64_58, ↓s_64_59, ↓s_64_82, ↓s_64_88, ↓pv_i, ↓pv_r, ↓pv_0, ↓pv_l, wz_pk, wz_ti, wz_wz, vI_wz, wz_id, wz_0, List.length_cons, List.length_nil, ↓reduceIte, true_and, and_true, Int.reduceLE, Int.reduceLT, Int.reduceEq, not_true_eq_false, not_false_eq_true, false_or, or_false, true_or, or_true, ite_not, Int.reduceNeg, Int32.reduceToInt, Nat.reduceAdd, Nat.reduceLeDiff, Nat.reduceLT, Nat.reduceEqDiff, Int.reduceAdd, Int.reduceSub, Int.reduceMul, Nat.zero_le, pk_po_ne, pk_po_eq, pk_po_ix, rI, ne_eq, hC.at 3 rfl, hC.wzz 3 rfl, hC.at 29 rfl, hC.wzz 29 rfl, hC.at 30 rfl, hC.wzz 30 rfl, hC.at 31 rfl, hC.wzz 31 rfl, hC.at 85 rfl, hC.wzz 85 rfl, e1, e2, e3, if_false, hp, hw]
        grind
  have key := key M fx.rfl (fun d a b => by omega)
  simp only [↓x_c, ↓x_is_5, ↓x_is_6, ↓x_il_6, ↓x_al_1, ↓gi_hA_2, ↓gi_hB_2, ↓x_ge, ↓x_al_0, ↓gr_92_3, ↓gr_hA_12, ↓gr_hB_12, ↓x_il_3, ↓x_ne, ↓x_al_2, ↓gr_78_7, ↓x_ne0, ↓gr_hA_14, ↓gr_hB_14, ↓x_il_4, ↓x_go, ↓x_eq0, ↓x_il_5, ↓gr_hA_13, ↓gr_hB_13, ↓x_iadd, ↓x_inc_6, ↓x_ir, ↓ld_85, ↓st_85, ↓ld_94, ↓st_94, ↓ld_hA_26, ↓st_hA_26, ↓ld_hA_27, ↓st_hA_27, ↓ld_hA_28, ↓st_hA_28, ↓ld_hB_26, ↓st_hB_26, ↓ld_hB_27, ↓st_hB_27, ↓ld_hB_28, ↓st_hB_28, ↓n_64, ↓s_64_0, ↓s_64_58, ↓s_64_59, ↓s_64_82, ↓s_64_88, ↓pv_i, ↓pv_r, ↓pv_0, ↓pv_l, wz_pk, wz_ti, wz_wz, vI_wz, wz_id, wz_0, List.length_cons, List.length_nil, ↓reduceIte, true_and, and_true, Int.reduceLE, Int.reduceLT, Int.reduceEq, not_true_eq_false, not_false_eq_true, false_or, or_false, true_or, or_true, ite_not, Int.reduceNeg, Int32.reduceToInt, Nat.reduceAdd, Nat.reduceLeDiff, Nat.reduceLT, Nat.reduceEqDiff, Int.reduceAdd, Int.reduceSub, Int.reduceMul, Nat.zero_le, pk_po_ne, pk_po_eq, pk_po_ix, rI, ne_eq]
  exact key
theorem C65 {p w l : Int} {q : Int → Int} (hC : RC S M) (hH : hou S) (hr : ∀ d, 0 ≤ d → d < S 3 2 → pk M 94 d = bi (inr S p w d)) (hg : ∀ d, 0 ≤ d → d < S 3 2 → pk M 93 d = q d) (hl : pk M 92 1 = l) (hl0 : 0 ≤ l) (ho : 0 < owedR S p w)
    (hQ : ∀ M', fx [92, 93] M M' → (∀ d, 0 ≤ d → d < S 3 2 → pk M' 93 d = payG S p w (min l (owedR S p w)) q d) → pk M' 92 1 = l - min l (owedR S p w) → pk M' 92 0 = pk M 92 0 → Q (.inl none) (mkh X s dh dl t M')) : CL 65 [.ref 92, .ref (hA s), vI (owedR S p w)] (mkh X s dh dl t M) Q := by
  have h1 := hH.nd
  have h2 := owedR_rng (p := p) (w := w) hH
  generalize hx : min l (owedR S p w) = x
  have hx2 : 0 ≤ x ∧ x ≤ owedR S p w := by omega
  have hl2 := pk_hi M 92 1
  rw [hl] at hl2
  have hcut : ∀ n : Nat, (n : Int) ≤ S 3 2 → 0 ≤ sm (fun d => if inr S p w d = true then cutR S p w x d else 0) n ∧ sm (fun d => if inr S p w d = true then cutR S p w x d else 0) n ≤ n * 9999 := by
    intro n hn
    have a1 : (n : Int) * 0 ≤ sm (fun d => if inr S p w d = true then cutR S p w x d else 0) n := sm_ge (fun i hi => by
      have := cutR_rng (p := p) (w := w) (x := x) (d := i) hH hx2 ho ⟨by omega, by omega⟩
      split <;> omega)
    have a2 : sm (fun d => if inr S p w d = true then cutR S p w x d else 0) n ≤ (n : Int) * 9999 := sm_le (fun i hi => by
      have := cutR_rng (p := p) (w := w) (x := x) (d := i) hH hx2 ho ⟨by omega, by omega⟩
      have := hH.amt i (by omega) (by omega)
      split <;> omega)
    omega
  have hov : ∀ n : Nat, (n : Int) ≤ S 3 2 → -100000 ≤ ovN S p w x n ∧ ovN S p w x n ≤ 59994 := by
    intro n
    induction n with
    | zero =>
      intro _
      have := hcut (S 3 2).toNat (by omega)
      simp only [ovN]
      omega
    | succ n ih =>
      intro hn
      have := ih (by omega)
      simp only [ovN]
      split <;> omega
  -- the second round
  have key2 : ∀ M', fx [92, 93] M M' → (∀ d, 0 ≤ d → d < ((0 : Nat) : Int) → pk M' 93 d = payG S p w x q d) → (∀ d, ((0 : Nat) : Int) ≤ d → d < S 3 2 → pk M' 93 d = if inr S p w d = true then cutR S p w x d else q d) → pk M' 92 1 = l → pk M' 92 0 = pk M 92 0 → EX 65 (sx 65 78) [.ref 92, .ref (hA s), vI (owedR S p w), vI x, vI (ovN S p w x (0 : Nat)), vI ((0 : Nat) : Int)] [] (mkh X s dh dl t M') Q := by
    refine lp (n := (S 3 2).toNat) (fun n => ∀ M', fx [92, 93] M M' → (∀ d, 0 ≤ d → d < (n : Int) → pk M' 93 d = payG S p w x q d) → (∀ d, (n : Int) ≤ d → d < S 3 2 → pk M' 93 d = if inr S p w d = true then cutR S p w x d else q d) → pk M' 92 1 = l → pk M' 92 0 = pk M 92 0 → EX 65 (sx 65 78) [.ref 92, .ref (hA s), vI (owedR S p w), vI x, vI (ovN S p w x n), vI n] [] (mkh X s dh dl t M') Q) ?_ ?_
    · intro M' f a1 a2 a3 a4
      replace hC := hC.fxx f rfl
      have e1 : S 3 2 ≤ (S 3 2).toNat := by omega
      have e := hQ (po M' 92 1 (l - x)) (f.pw (by decide)) (fun d b1 b2 => by rw [pk_po_ne (by decide), hx]; exact a1 d b1 (by omega)) (by rw [pk_po_eq, hx]; exact wz_id (by omega) (by omega)) (by rw [pk_po_ix (by decide)]; exact a4)
      rw [s_65_78]
      simp (disch := omega) only [↓x_il_2, ↓x_gt0, ↓x_rt, ↓x_al_0, ↓gi_92_1, ↓x_mm0, ↓x_is_3, ↓x_il_3, ↓x_is_4, ↓x_c, ↓x_is_5, ↓x_il_5, ↓x_al_1, ↓gi_hA_2, ↓gi_hB_2, ↓x_ge, ↓gr_92_3, ↓x_eq0, ↓gr_92_2, ↓gr_hA_13, ↓gr_hB_13, ↓x_imul, ↓x_idiv, ↓x_il_4, ↓x_isub, ↓x_inc_5, ↓x_go, ↓x_le0, ↓x_dup2, ↓x_iadd, ↓x_inc_4, ↓x_dup_i, ↓x_dup_r, ↓pi_92_1, ↓ld_93, ↓st_93, ↓ld_94, ↓st_94, ↓ld_hA_27, ↓st_hA_27, ↓ld_hB_27, ↓st_hB_27, ↓n_65, ↓s_65_0, ↓s_65_5, ↓s_65_69, ↓s_65_75, ↓s_65_133, ↓s_65_139, ↓pv_i, ↓pv_r, ↓pv_0, ↓pv_l, wz_pk, wz_ti, wz_wz, vI_wz, wz_id, wz_0, List.length_cons, List.length_nil, ↓reduceIte, true_and, and_true, Int.reduceLE, Int.reduceLT, Int.reduceEq, not_true_eq_false, not_false_eq_true, false_or, or_false, true_or, or_true, ite_not, Int.reduceNeg, Int32.reduceToInt, Nat.reduceAdd, Nat.reduceLeDiff, Nat.reduceLT, Nat.reduceEqDiff, Int.reduceAdd, Int.reduceSub, Int.reduceMul, Nat.zero_le, pk_po_ne, pk_po_eq, pk_po_ix, rI, ne_eq, hC.at 3 rfl, hC.wzz 3 rfl, e1, if_true, a3]
      exact e
    · intro n hn ih M' f a1 a2 a3 a4
      replace hC := hC.fxx f rfl
      have e1 : ¬ S 3 2 ≤ n := by omega
      have e2 : (n : Int) < 6 := by omega
      have e3 : (0 : Int) ≤ n := by omega
      have r1 := hr n (by omega) (by omega)
      have r2 : pk M' 94 n = pk M 94 n := f.at (by decide)
      have r3 := a2 n (by omega) (by omega)
      have r4 := hov n (by omega)
      have r5 := hH.amt n (by omega) (by omega)
      have r6 := cutR_rng (p := p) (w := w) (x := x) (d := n) hH hx2 ho ⟨by omega, by omega⟩
      rw [r1] at r2
      simp only [ovN] at ih
      rw [s_65_78]
      by_cases c1 : inr S p w n = true
      · rw [if_pos c1] at r3
        by_cases c2 : 0 < ovN S p w x n ∧ cutR S p w x n < S 30 n
        · rw [if_pos ⟨c1, c2⟩] at ih
          have ih2 := ih (po M' 93 n (cutR S p w x n + 1)) (f.pw (by decide)) (fun d b1 b2 => by
            rw [pk_po]
            split
            · rename_i h
              rw [h.2, payG, if_pos c1, if_pos (by rw [Int.toNat_natCast]; exact c2)]
              exact wz_id (by omega) (by omega)
            · exact a1 d b1 (by omega)) (fun d b1 b2 => by
            rw [pk_po_ix (by omega)]
            exact a2 d (by omega) b2) (by rw [pk_po_ne (by decide)]; exact a3) (by rw [pk_po_ne (by decide)]; exact a4)
          have c3 : ¬ ovN S p w x n ≤ 0 := by omega
          have c4 : ¬ S 30 n ≤ cutR S p w x n := by omega
          simp (disch := omega) only [↓x_il_2, ↓x_gt0, ↓x_rt, ↓x_al_0, ↓gi_92_1, ↓x_mm0, ↓x_is_3, ↓x_il_3, ↓x_is_4, ↓x_c, ↓x_is_5, ↓x_il_5, ↓x_al_1, ↓gi_hA_2, ↓gi_hB_2, ↓x_ge, ↓gr_92_3, ↓x_eq0, ↓gr_92_2, ↓gr_hA_13, ↓gr_hB_13, ↓x_imul, ↓x_idiv, ↓x_il_4, ↓x_isub, ↓x_inc_5, ↓x_go, ↓x_le0, ↓x_dup2, ↓x_iadd, ↓x_inc_4, ↓x_dup_i, ↓x_dup_r, ↓pi_92_1, ↓ld_93, ↓st_93, ↓ld_94, ↓st_94, ↓ld_hA_27, ↓st_hA_27, ↓ld_hB_27, ↓st_hB_27, ↓n_65, ↓s_65_0, ↓s_65_5, ↓s_65_69, ↓s_65_75, ↓s_65_133, ↓s_65_139, ↓pv_i, ↓pv_r, ↓pv_0, ↓pv_l, wz_pk, wz_ti, wz_wz, vI_wz, wz_id, wz_0, List.length_cons, List.length_nil, ↓reduceIte, true_and, and_true, Int.reduceLE, Int.reduceLT, Int.reduceEq, not_true_eq_false, not_false_eq_true, false_or, or_false, true_or, or_true, ite_not, Int.reduceNeg, Int32.reduceToInt, Nat.reduceAdd, Nat.reduceLeDiff, Nat.reduceLT, Nat.reduceEqDiff, Int.reduceAdd, Int.reduceSub, Int.reduceMul, Nat.zero_le, pk_po_ne, pk_po_eq, pk_po_ix, rI, ne_eq, hC.at 3 rfl, hC.wzz 3 rfl, hC.at 30 rfl, hC.wzz 30 rfl, e1, e2, e3, if_false, r2, r3, c1, bi, if_true, c3, c4]
          exact ih2
        · rw [if_neg (fun h => c2 h.2)] at ih
          have ih2 := ih M' f (fun d b1 b2 => by
            by_cases hd : d = n
            · subst hd
              rw [payG, if_pos c1, if_neg (by rw [Int.toNat_natCast]; exact c2)]
              exact r3
            · exact a1 d b1 (by omega)) (fun d b1 b2 => a2 d (by omega) b2) a3 a4
          simp (disch := omega) only [↓x_il_2, ↓x_gt0, ↓x_rt, ↓x_al_0, ↓gi_92_1, ↓x_mm0, ↓x_is_3, ↓x_il_3, ↓x_is_4, ↓x_c, ↓x_is_5, ↓x_il_5, ↓x_al_1, ↓gi_hA_2, ↓gi_hB_2, ↓x_ge, ↓gr_92_3, ↓x_eq0, ↓gr_92_2, ↓gr_hA_13, ↓gr_hB_13, ↓x_imul, ↓x_idiv, ↓x_il_4, ↓x_isub, ↓x_inc_5, ↓x_go, ↓x_le0, ↓x_dup2, ↓x_iadd, ↓x_inc_4, ↓x_dup_i, ↓x_dup_r, ↓pi_92_1, ↓ld_93, ↓st_93, ↓ld_94, ↓st_94, ↓ld_hA_27, ↓st_hA_27, ↓ld_hB_27, ↓st_hB_27, ↓n_65, ↓s_65_0, ↓s_65_5, ↓s_65_69, ↓s_65_75, ↓s_65_133, ↓s_65_139, ↓pv_i, ↓pv_r, ↓pv_0, ↓pv_l, wz_pk, wz_ti, wz_wz, vI_wz, wz_id, wz_0, List.length_cons, List.length_nil, ↓reduceIte, true_and, and_true, Int.reduceLE, Int.reduceLT, Int.reduceEq, not_true_eq_false, not_false_eq_true, false_or, or_false, true_or, or_true, ite_not, Int.reduceNeg, Int32.reduceToInt, Nat.reduceAdd, Nat.reduceLeDiff, Nat.reduceLT, Nat.reduceEqDiff, Int.reduceAdd, Int.reduceSub, Int.reduceMul, Nat.zero_le, pk_po_ne, pk_po_eq, pk_po_ix, rI, ne_eq, hC.at 3 rfl, hC.wzz 3 rfl, hC.at 30 rfl, hC.wzz 30 rfl, e1, e2, e3, if_false, r2, r3, c1, bi, if_true]
          clear hr hg hQ hcut hov ih a1 a2 hC hH
          grind
      · rw [if_neg c1] at r3
        rw [if_neg (fun h => c1 h.1)] at ih
        have c3 : inr S p w n = false := by simpa using c1
        have ih2 := ih M' f (fun d b1 b2 => by
          by_cases hd : d = n
          · subst hd
            rw [payG, if_neg c1]
            exact r3
          · exact a1 d b1 (by omega)) (fun d b1 b2 => a2 d (by omega) b2) a3 a4
        simp (disch := omega) only [↓x_il_2, ↓x_gt0, ↓x_rt, ↓x_al_0, ↓gi_92_1, ↓x_mm0, ↓x_is_3, ↓x_il_3, ↓x_is_4, ↓x_c, ↓x_is_5, ↓x_il_5, ↓x_al_1, ↓gi_hA_2, ↓gi_hB_2, ↓x_ge, ↓gr_92_3, ↓x_eq0, ↓gr_92_2, ↓gr_hA_13, ↓gr_hB_13, ↓x_imul, ↓x_idiv, ↓x_il_4, ↓x_isub, ↓x_inc_5, ↓x_go, ↓x_le0, ↓x_dup2, ↓x_iadd, ↓x_inc_4, ↓x_dup_i, ↓x_dup_r, ↓pi_92_1, ↓ld_93, ↓st_93, ↓ld_94, ↓st_94, ↓ld_hA_27, ↓st_hA_27, ↓ld_hB_27, ↓st_hB_27, ↓n_65, ↓s_65_0, ↓s_65_5, ↓s_65_69, ↓s_65_75, ↓s_65_133, ↓s_65_139, ↓pv_i, ↓pv_r, ↓pv_0, ↓pv_l, wz_pk, wz_ti, wz_wz, vI_wz, wz_id, wz_0, List.length_cons, List.length_nil, ↓reduceIte, true_and, and_true, Int.reduceLE, Int.reduceLT, Int.reduceEq, not_true_eq_false, not_false_eq_true, false_or, or_false, true_or, or_true, ite_not, Int.reduceNeg, Int32.reduceToInt, Nat.reduceAdd, Nat.reduceLeDiff, Nat.reduceLT, Nat.reduceEqDiff, Int.reduceAdd, Int.reduceSub, Int.reduceMul, Nat.zero_le, pk_po_ne, pk_po_eq, pk_po_ix, rI, ne_eq, hC.at 3 rfl, hC.wzz 3 rfl, hC.at 30 rfl, hC.wzz 30 rfl, e1, e2, e3, if_false, r2, r3, c3, bi, if_true, Bool.false_eq_true]
        exact ih2
  -- the first
  have key1 : ∀ M', fx [92, 93] M M' → (∀ d, 0 ≤ d → d < ((0 : Nat) : Int) → pk M' 93 d = if inr S p w d = true then cutR S p w x d else q d) → (∀ d, ((0 : Nat) : Int) ≤ d → d < S 3 2 → pk M' 93 d = q d) → pk M' 92 1 = l → pk M' 92 0 = pk M 92 0 → EX 65 (sx 65 20) [.ref 92, .ref (hA s), vI (owedR S p w), vI x, vI (x - sm (fun d => if inr S p w d = true then cutR S p w x d else 0) (0 : Nat)), vI ((0 : Nat) : Int)] [] (mkh X s dh dl t M') Q := by
    refine lp (n := (S 3 2).toNat) (fun n => ∀ M', fx [92, 93] M M' → (∀ d, 0 ≤ d → d < (n : Int) → pk M' 93 d = if inr S p w d = true then cutR S p w x d else q d) → (∀ d, (n : Int) ≤ d → d < S 3 2 → pk M' 93 d = q d) → pk M' 92 1 = l → pk M' 92 0 = pk M 92 0 → EX 65 (sx 65 20) [.ref 92, .ref (hA s), vI (owedR S p w), vI x, vI (x - sm (fun d => if inr S p w d = true then cutR S p w x d else 0) n), vI n] [] (mkh X s dh dl t M') Q) ?_ ?_
    · intro M' f a1 a2 a3 a4
      replace hC := hC.fxx f rfl
      have e1 : S 3 2 ≤ (S 3 2).toNat := by omega
      have k2 := key2 M' f (fun d b1 b2 => by omega) (fun d b1 b2 => a1 d b1 (by omega)) a3 a4
      rw [s_65_20]
      simp (disch := omega) only [↓x_il_2, ↓x_gt0, ↓x_rt, ↓x_al_0, ↓gi_92_1, ↓x_mm0, ↓x_is_3, ↓x_il_3, ↓x_is_4, ↓x_c, ↓x_is_5, ↓x_il_5, ↓x_al_1, ↓gi_hA_2, ↓gi_hB_2, ↓x_ge, ↓gr_92_3, ↓x_eq0, ↓gr_92_2, ↓gr_hA_13, ↓gr_hB_13, ↓x_imul, ↓x_idiv, ↓x_il_4, ↓x_isub, ↓x_inc_5, ↓x_go, ↓x_le0, ↓x_dup2, ↓x_iadd, ↓x_inc_4, ↓x_dup_i, ↓x_dup_r, ↓pi_92_1, ↓ld_93, ↓st_93, ↓ld_94, ↓st_94, ↓ld_hA_27, ↓st_hA_27, ↓ld_hB_27, ↓st_hB_27, ↓n_65, ↓s_65_0, ↓s_65_5, ↓s_65_69, ↓s_65_75, ↓s_65_133, ↓s_65_139, ↓pv_i, ↓pv_r, ↓pv_0, ↓pv_l, wz_pk, wz_ti, wz_wz, vI_wz, wz_id, wz_0, List.length_cons, List.length_nil, ↓reduceIte, true_and, and_true, Int.reduceLE, Int.reduceLT, Int.reduceEq, not_true_eq_false, not_false_eq_true, false_or, or_false, true_or, or_true, ite_not, Int.reduceNeg, Int32.reduceToInt, Nat.reduceAdd, Nat.reduceLeDiff, Nat.reduceLT, Nat.reduceEqDiff, Int.reduceAdd, Int.reduceSub, Int.reduceMul, Nat.zero_le, pk_po_ne, pk_po_eq, pk_po_ix, rI, ne_eq, hC.at 3 rfl, hC.wzz 3 rfl, e1, if_true]
      exact k2
    · intro n hn ih M' f a1 a2 a3 a4
      replace hC := hC.fxx f rfl
      have e1 : ¬ S 3 2 ≤ n := by omega
      have e2 : (n : Int) < 6 := by omega
      have e3 : (0 : Int) ≤ n := by omega
      have r1 := hr n (by omega) (by omega)
      have r2 : pk M' 94 n = pk M 94 n := f.at (by decide)
      have r5 := hH.amt n (by omega) (by omega)
      have r6 := cutR_rng (p := p) (w := w) (x := x) (d := n) hH hx2 ho ⟨by omega, by omega⟩
      have r7 := mulR_rng (x := x) (d := n) hH ⟨by omega, by omega⟩ ⟨by omega, by omega⟩
      have r8 := hcut n (by omega)
      rw [r1] at r2
      simp only [sm] at ih
      rw [s_65_20]
      by_cases c1 : inr S p w n = true
      · rw [if_pos c1] at ih
        have ih2 := ih (po M' 93 n (cutR S p w x n)) (f.pw (by decide)) (fun d b1 b2 => by
          rw [pk_po]
          split
          · rename_i h
            rw [h.2, if_pos c1]
            exact wz_id (by omega) (by omega)
          · exact a1 d b1 (by omega)) (fun d b1 b2 => by
          rw [pk_po_ix (by omega)]
          exact a2 d (by omega) b2) (by rw [pk_po_ne (by decide)]; exact a3) (by rw [pk_po_ne (by decide)]; exact a4)
        have t1 : wz (x * S 30 n) = x * S 30 n := wz_id (by omega) (by omega)
        have t2 : wz (owedR S p w) = owedR S p w := wz_id (by omega) (by omega)
        have t3 : Int.tdiv (x * S 30 n) (owedR S p w) = cutR S p w x n := Int.tdiv_eq_ediv_of_nonneg r7.1
        have t4 : ¬ owedR S p w = 0 := by omega
        have t5 : x - sm (fun d => if inr S p w d = true then cutR S p w x d else 0) n - cutR S p w x n = x - (sm (fun d => if inr S p w d = true then cutR S p w x d else 0) n + cutR S p w x n) := by omega
        simp (disch := omega) only [↓x_il_2, ↓x_gt0, ↓x_rt, ↓x_al_0, ↓gi_92_1, ↓x_mm0, ↓x_is_3, ↓x_il_3, ↓x_is_4, ↓x_c, ↓x_is_5, ↓x_il_5, ↓x_al_1, ↓gi_hA_2, ↓gi_hB_2, ↓x_ge, ↓gr_92_3, ↓x_eq0, ↓gr_92_2, ↓gr_hA_13, ↓gr_hB_13, ↓x_imul, ↓x_idiv, ↓x_il_4, ↓x_isub, ↓x_inc_5, ↓x_go, ↓x_le0, ↓x_dup2, ↓x_iadd, ↓x_inc_4, ↓x_dup_i, ↓x_dup_r, ↓pi_92_1, ↓ld_93, ↓st_93, ↓ld_94, ↓st_94, ↓ld_hA_27, ↓st_hA_27, ↓ld_hB_27, ↓st_hB_27, ↓n_65, ↓s_65_0, ↓s_65_5, ↓s_65_69, ↓s_65_75, ↓s_65_133, ↓s_65_139, ↓pv_i, ↓pv_r, ↓pv_0, ↓pv_l, wz_pk, wz_ti, wz_wz, vI_wz, wz_id, wz_0, List.length_cons, List.length_nil, ↓reduceIte, true_and, and_true, Int.reduceLE, Int.reduceLT, Int.reduceEq, not_true_eq_false, not_false_eq_true, false_or, or_false, true_or, or_true, ite_not, Int.reduceNeg, Int32.reduceToInt, Nat.reduceAdd, Nat.reduceLeDiff, Nat.reduceLT, Nat.reduceEqDiff, Int.reduceAdd, Int.reduceSub, Int.reduceMul, Nat.zero_le, pk_po_ne, pk_po_eq, pk_po_ix, rI, ne_eq, hC.at 3 rfl, hC.wzz 3 rfl, hC.at 30 rfl, hC.wzz 30 rfl, e1, e2, e3, if_false, r2, c1, bi, if_true, t1, t2, t3, t4, t5]
        exact ih2
      · rw [if_neg c1, Int.add_zero] at ih
        have c3 : inr S p w n = false := by simpa using c1
        have ih2 := ih M' f (fun d b1 b2 => by
          by_cases hd : d = n
          · subst hd
            rw [if_neg c1]
            exact a2 _ (by omega) (by omega)
          · exact a1 d b1 (by omega)) (fun d b1 b2 => a2 d (by omega) b2) a3 a4
        simp (disch := omega) only [↓x_il_2, ↓x_gt0, ↓x_rt, ↓x_al_0, ↓gi_92_1, ↓x_mm0, ↓x_is_3, ↓x_il_3, ↓x_is_4, ↓x_c, ↓x_is_5, ↓x_il_5, ↓x_al_1, ↓gi_hA_2, ↓gi_hB_2, ↓x_ge, ↓gr_92_3, ↓x_eq0, ↓gr_92_2, ↓gr_hA_13, ↓gr_hB_13, ↓x_imul, ↓x_idiv, ↓x_il_4, ↓x_isub, ↓x_inc_5, ↓x_go, ↓x_le0, ↓x_dup2, ↓x_iadd, ↓x_inc_4, ↓x_dup_i, ↓x_dup_r, ↓pi_92_1, ↓ld_93, ↓st_93, ↓ld_94, ↓st_94, ↓ld_hA_27, ↓st_hA_27, ↓ld_hB_27, ↓st_hB_27, ↓n_65, ↓s_65_0, ↓s_65_5, ↓s_65_69, ↓s_65_75, ↓s_65_133, ↓s_65_139, ↓pv_i, ↓pv_r, ↓pv_0, ↓pv_l, wz_pk, wz_ti, wz_wz, vI_wz, wz_id, wz_0, List.length_cons, List.length_nil, ↓reduceIte, true_and, and_true, Int.reduceLE, Int.reduceLT, Int.reduceEq, not_true_eq_false, not_false_eq_true, false_or, or_false, true_or, or_true, ite_not, Int.reduceNeg, Int32.reduceToInt, Nat.reduceAdd, Nat.reduceLeDiff, Nat.reduceLT, Nat.reduceEqDiff, Int.reduceAdd, Int.reduceSub, Int.reduceMul, Nat.zero_le, pk_po_ne, pk_po_eq, pk_po_ix, rI, ne_eq, hC.at 3 rfl, hC.wzz 3 rfl, hC.at 30 rfl, hC.wzz 30 rfl, e1, e2, e3, if_false, r2, c3, bi, if_true, Bool.false_eq_true]
        exact ih2
  have key := key1 M fx.rfl (fun d a b => by omega) (fun d a b => hg d (by omega) b) hl rfl
  simp only [sm, Int.sub_zero] at key
  have t4 : ¬ owedR S p w ≤ 0 := by omega
  simp (disch := omega) only [↓x_il_2, ↓x_gt0, ↓x_rt, ↓x_al_0, ↓gi_92_1, ↓x_mm0, ↓x_is_3, ↓x_il_3, ↓x_is_4, ↓x_c, ↓x_is_5, ↓x_il_5, ↓x_al_1, ↓gi_hA_2, ↓gi_hB_2, ↓x_ge, ↓gr_92_3, ↓x_eq0, ↓gr_92_2, ↓gr_hA_13, ↓gr_hB_13, ↓x_imul, ↓x_idiv, ↓x_il_4, ↓x_isub, ↓x_inc_5, ↓x_go, ↓x_le0, ↓x_dup2, ↓x_iadd, ↓x_inc_4, ↓x_dup_i, ↓x_dup_r, ↓pi_92_1, ↓ld_93, ↓st_93, ↓ld_94, ↓st_94, ↓ld_hA_27, ↓st_hA_27, ↓ld_hB_27, ↓st_hB_27, ↓n_65, ↓s_65_0, ↓s_65_5, ↓s_65_69, ↓s_65_75, ↓s_65_133, ↓s_65_139, ↓pv_i, ↓pv_r, ↓pv_0, ↓pv_l, wz_pk, wz_ti, wz_wz, vI_wz, wz_id, wz_0, List.length_cons, List.length_nil, ↓reduceIte, true_and, and_true, Int.reduceLE, Int.reduceLT, Int.reduceEq, not_true_eq_false, not_false_eq_true, false_or, or_false, true_or, or_true, ite_not, Int.reduceNeg, Int32.reduceToInt, Nat.reduceAdd, Nat.reduceLeDiff, Nat.reduceLT, Nat.reduceEqDiff, Int.reduceAdd, Int.reduceSub, Int.reduceMul, Nat.zero_le, pk_po_ne, pk_po_eq, pk_po_ix, rI, ne_eq, ho, if_true, hl, hx]
  exact key
end C39
