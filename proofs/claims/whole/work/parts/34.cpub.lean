/-! THE CLASS'S PUBLIC METHODS, the plain ones -/
section C34
variable {Q : MOut → MHp → Prop} {X : Nat × (Nat → Int32)} {s : Bool × Bool} {dh dl t : Nat} {M : Mem} {S : St}
theorem K81 {w : Int} (hC : RC S M) (hw : wz w = w) (hP : PC X s dh dl t M Q (o_told S w)) : CL 81 [.ref 0, vI w] (mkh X s dh dl t M) Q := by
  simp only [↓x_al_0, ↓x_il_1, ↓x_c, ↓c_110, ↓w_1, ↓gd_0_3, ↓gi_hA_0, ↓gi_hB_0, ↓x_ir, ↓gi_hA_1, ↓gi_hB_1, ↓gi_hA_2, ↓gi_hB_2, ↓gd_0_5, ↓gi_lA_0, ↓gi_lB_0, ↓gr_0_9, ↓gi_78_0, ↓gi_78_9, ↓n_81, ↓s_81_0, ↓s_81_44, ↓s_81_52, ↓s_81_60, ↓s_81_68, ↓s_81_76, ↓s_81_84, ↓bk_v, ↓bk_n, ↓bk_r, ↓be_81, ↓pv_i, ↓pv_r, ↓pv_0, ↓pv_l, wz_pk, wz_ti, wz_wz, vI_wz, wz_id, wz_0, List.length_cons, List.length_nil, ↓reduceIte, true_and, and_true, Int.reduceLE, Int.reduceLT, Int.reduceEq, not_true_eq_false, not_false_eq_true, false_or, or_false, true_or, or_true, ite_not, Int.reduceNeg, Int32.reduceToInt, Nat.reduceAdd, Nat.reduceLeDiff, Nat.reduceLT, Nat.reduceEqDiff, Int.reduceAdd, Int.reduceSub, Int.reduceMul, Nat.zero_le, pk_po_ne, pk_po_eq, pk_po_ix, rI, ne_eq, hC.at 3 rfl, hC.wzz 3 rfl, hC.at 63 rfl, hC.wzz 63 rfl, hC.at 78 rfl, hC.wzz 78 rfl, ↓C110 hC, hw]
  split
  · rename_i h
    have e := hP.ok (by rw [o_told, if_pos h]) hC FC.rfl
    grind
  · rename_i h
    exact hP.no 1 (by rw [o_told, if_neg h]; rfl) hC.ref (FC.rfl.pw (by decide))
theorem K83 {p m : Int} (hC : RC S M) (hH : hou S) (hw : wz p = p) (hm : wz m = m) (hP : PC X s dh dl t M Q (o_income S p m)) : CL 83 [.ref 0, vI p, vI m] (mkh X s dh dl t M) Q := by
  have h1 := hH.np
  simp only [↓x_al_0, ↓x_il_1, ↓gd_0_3, ↓gi_hA_0, ↓gi_hB_0, ↓c_109, ↓x_il_2, ↓x_c, ↓c_110, ↓gr_hA_4, ↓gr_hB_4, ↓x_ir, ↓ld_hA_2, ↓ar_hA_2, ↓ld_hB_2, ↓ar_hB_2, ↓n_83, ↓s_83_0, ↓bk_v, ↓bk_n, ↓bk_r, ↓be_83, ↓pv_i, ↓pv_r, ↓pv_0, ↓pv_l, wz_pk, wz_ti, wz_wz, vI_wz, wz_id, wz_0, List.length_cons, List.length_nil, ↓reduceIte, true_and, and_true, Int.reduceLE, Int.reduceLT, Int.reduceEq, not_true_eq_false, not_false_eq_true, false_or, or_false, true_or, or_true, ite_not, Int.reduceNeg, Int32.reduceToInt, Nat.reduceAdd, Nat.reduceLeDiff, Nat.reduceLT, Nat.reduceEqDiff, Int.reduceAdd, Int.reduceSub, Int.reduceMul, Nat.zero_le, pk_po_ne, pk_po_eq, pk_po_ix, rI, ne_eq, hC.at 3 rfl, hC.wzz 3 rfl, hC.at 5 rfl, hC.wzz 5 rfl, ↓C109 hC, ↓C110 hC, hw, hm]
  by_cases hp : 0 ≤ p ∧ p < S 3 0
  · rw [if_pos hp]
    by_cases h : 0 ≤ m ∧ m ≤ 35
    · rw [if_pos h]
      have e := hP.ok (by rw [o_income, if_pos hp, if_pos h]) hC FC.rfl
      rw [cl_id (by omega) (by omega) (by decide)]
      grind
    · rw [if_neg h]
      exact hP.no 1 (by rw [o_income, if_pos hp, if_neg h]; rfl) hC.ref (FC.rfl.pw (by decide))
  · rw [if_neg hp]
    exact hP.no 0 (by rw [o_income, if_neg hp]; rfl) hC.ref (FC.rfl.pw (by decide))
theorem K84 {p m : Int} (hC : RC S M) (hH : hou S) (hI : crs S 78) (hw : wz p = p) (hm : wz m = m) (hP : PC X s dh dl t M Q (o_good S p m)) : CL 84 [.ref 0, vI p, vI m] (mkh X s dh dl t M) Q := by
  have h1 := hH.ng
  simp only [↓x_al_0, ↓x_il_1, ↓gd_0_3, ↓gi_hA_1, ↓gi_hB_1, ↓c_109, ↓x_il_2, ↓x_c, ↓c_110, ↓w_3, ↓gr_hA_6, ↓gr_hB_6, ↓x_ir, ↓gr_hA_7, ↓gr_hB_7, ↓gr_hA_8, ↓gr_hB_8, ↓gr_0_9, ↓c_6, ↓gr_78_5, ↓gr_78_6, ↓ld_83, ↓ld_84, ↓ld_hA_10, ↓ld_hA_8, ↓ld_hA_9, ↓ld_hB_10, ↓ld_hB_8, ↓ld_hB_9, ↓n_84, ↓s_84_0, ↓s_84_56, ↓s_84_66, ↓s_84_76, ↓s_84_86, ↓s_84_95, ↓s_84_105, ↓bk_v, ↓bk_n, ↓bk_r, ↓be_84, ↓pv_i, ↓pv_r, ↓pv_0, ↓pv_l, wz_pk, wz_ti, wz_wz, vI_wz, wz_id, wz_0, List.length_cons, List.length_nil, ↓reduceIte, true_and, and_true, Int.reduceLE, Int.reduceLT, Int.reduceEq, not_true_eq_false, not_false_eq_true, false_or, or_false, true_or, or_true, ite_not, Int.reduceNeg, Int32.reduceToInt, Nat.reduceAdd, Nat.reduceLeDiff, Nat.reduceLT, Nat.reduceEqDiff, Int.reduceAdd, Int.reduceSub, Int.reduceMul, Nat.zero_le, pk_po_ne, pk_po_eq, pk_po_ix, rI, ne_eq, hC.at 3 rfl, hC.wzz 3 rfl, hC.at 11 rfl, hC.wzz 11 rfl, hC.at 12 rfl, hC.wzz 12 rfl, hC.at 13 rfl, hC.wzz 13 rfl, hC.at 83 rfl, hC.wzz 83 rfl, hC.at 84 rfl, hC.wzz 84 rfl, ↓C109 hC, ↓C110 hC, ↓C6 hC hI, hw, hm]
  by_cases hp : 0 ≤ p ∧ p < S 3 1
  · rw [if_pos hp]
    by_cases h : 0 ≤ m ∧ m ≤ 5
    · rw [if_pos h]
      have e := hP.ok (by rw [o_good, if_pos hp, if_pos h]) hC FC.rfl
      grind
    · rw [if_neg h]
      exact hP.no 1 (by rw [o_good, if_pos hp, if_neg h]; rfl) hC.ref (FC.rfl.pw (by decide))
  · rw [if_neg hp]
    exact hP.no 0 (by rw [o_good, if_neg hp]; rfl) hC.ref (FC.rfl.pw (by decide))
theorem K85 {g p : Int} (hC : RC S M) (hH : hou S) (hg : wz g = g) (hp : wz p = p) (hP : PC X s dh dl t M Q (o_part S g p)) : CL 85 [.ref 0, vI g, vI p] (mkh X s dh dl t M) Q := by
  have h1 := hH.ng
  have h2 := hH.np
  simp only [↓x_al_0, ↓x_il_1, ↓gd_0_3, ↓gi_hA_1, ↓gi_hB_1, ↓c_109, ↓x_il_2, ↓gi_hA_0, ↓gi_hB_0, ↓gr_hA_9, ↓gr_hB_9, ↓x_ir, ↓ld_hA_11, ↓ar_hA_11, ↓ld_hB_11, ↓ar_hB_11, ↓n_85, ↓s_85_0, ↓bk_v, ↓bk_n, ↓bk_r, ↓be_85, ↓pv_i, ↓pv_r, ↓pv_0, ↓pv_l, wz_pk, wz_ti, wz_wz, vI_wz, wz_id, wz_0, List.length_cons, List.length_nil, ↓reduceIte, true_and, and_true, Int.reduceLE, Int.reduceLT, Int.reduceEq, not_true_eq_false, not_false_eq_true, false_or, or_false, true_or, or_true, ite_not, Int.reduceNeg, Int32.reduceToInt, Nat.reduceAdd, Nat.reduceLeDiff, Nat.reduceLT, Nat.reduceEqDiff, Int.reduceAdd, Int.reduceSub, Int.reduceMul, Nat.zero_le, pk_po_ne, pk_po_eq, pk_po_ix, rI, ne_eq, hC.at 3 rfl, hC.wzz 3 rfl, hC.at 14 rfl, hC.wzz 14 rfl, ↓C109 hC, hg, hp]
  by_cases h3 : 0 ≤ g ∧ g < S 3 1
  · rw [if_pos h3]
    by_cases h : 0 ≤ p ∧ p < S 3 0
    · rw [if_pos h]
      have e := hP.ok (by rw [o_part, if_pos h3, if_pos h]) hC FC.rfl
      rw [cl_id (by omega) (by omega) (by decide)]
      grind
    · rw [if_neg h]
      exact hP.no 0 (by rw [o_part, if_pos h3, if_neg h]; rfl) hC.ref (FC.rfl.pw (by decide))
  · rw [if_neg h3]
    exact hP.no 0 (by rw [o_part, if_neg h3]; rfl) hC.ref (FC.rfl.pw (by decide))
theorem K91 {i w : Int} (hC : RC S M) (hI : crs S 78) (hi : wz i = i) (hw : wz w = w) (hP : PC X s dh dl t M Q (o_act S i w)) : CL 91 [.ref 0, vI i, vI w] (mkh X s dh dl t M) Q := by
  have h1 := hI.acts
  simp only [↓x_al_0, ↓x_il_2, ↓x_c, ↓c_110, ↓x_il_1, ↓x_lt0, ↓gr_0_9, ↓gi_78_0, ↓x_lt, ↓x_ir, ↓w_5, ↓gr_78_1, ↓gr_78_2, ↓gr_78_3, ↓gr_78_4, ↓ld_79, ↓ld_80, ↓ld_81, ↓ld_82, ↓n_91, ↓s_91_0, ↓s_91_22, ↓s_91_24, ↓s_91_52, ↓s_91_62, ↓s_91_72, ↓s_91_82, ↓bk_v, ↓bk_n, ↓bk_r, ↓be_91, ↓pv_i, ↓pv_r, ↓pv_0, ↓pv_l, wz_pk, wz_ti, wz_wz, vI_wz, wz_id, wz_0, List.length_cons, List.length_nil, ↓reduceIte, true_and, and_true, Int.reduceLE, Int.reduceLT, Int.reduceEq, not_true_eq_false, not_false_eq_true, false_or, or_false, true_or, or_true, ite_not, Int.reduceNeg, Int32.reduceToInt, Nat.reduceAdd, Nat.reduceLeDiff, Nat.reduceLT, Nat.reduceEqDiff, Int.reduceAdd, Int.reduceSub, Int.reduceMul, Nat.zero_le, pk_po_ne, pk_po_eq, pk_po_ix, rI, ne_eq, hC.at 78 rfl, hC.wzz 78 rfl, hC.at 79 rfl, hC.wzz 79 rfl, hC.at 80 rfl, hC.wzz 80 rfl, hC.at 81 rfl, hC.wzz 81 rfl, hC.at 82 rfl, hC.wzz 82 rfl, ↓C110 hC, hw, hi]
  split
  · rename_i h
    have e := hP.ok (by rw [o_act, if_pos h]) hC FC.rfl
    grind
  · rename_i h
    exact hP.no 1 (by rw [o_act, if_neg h]; rfl) hC.ref (FC.rfl.pw (by decide))
end C34
