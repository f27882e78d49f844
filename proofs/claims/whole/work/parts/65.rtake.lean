section R65
variable {Q : MOut → MHp → Prop} {X : Nat × (Nat → Int32)} {s : Bool × Bool} {dh dl t : Nat} {M : Mem} {S : St}
theorem R156 {d g m o : Int} (hR : RR S M) (hH : hou S) (h0 : pk M 142 0 = 0) (hd : wz d = d) (hg : wz g = g) (hm : wz m = m) (ho : wz o = o) : CL 156 [.ref 142, vI d, vI g, vI m, vI o, vI 1] (mkh X s dh dl t M) Q ↔ if (0 ≤ d ∧ d < S 3 2) ∧ (0 ≤ g ∧ g < S 3 1) then (if (0 ≤ m ∧ m ≤ 9999) ∧ (0 ≤ o ∧ o ≤ 2) then Q (rI 1) (mkh X s dh dl t M) else Q (rI 0) (mkh X s dh dl t (rfM M 2 1))) else Q (rI 0) (mkh X s dh dl t (rfM M 1 0)) := by
  have n1 := hH.nd
  have n2 := hH.ng
  have g1 := hR.h.nd
  have g2 := hR.h.ng
  simp (disch := omega) only [↓x_al_0, ↓x_il_1, ↓x_c, ↓gi_142_23, ↓x_isub, ↓c_120, ↓x_eq0, ↓x_il_2, ↓gi_142_22, ↓x_go, ↓x_il_5, ↓c_119, ↓x_il_3, ↓x_il_4, ↓x_iadd, ↓x_irz, ↓n_156, ↓s_156_0, ↓s_156_33, ↓s_156_69, ↓s_156_85, ↓bk_v, ↓bk_n, ↓bk_r, ↓pv_i, ↓pv_r, ↓pv_0, ↓pv_l, wz_pk, wz_ti, wz_wz, vI_wz, wz_id, wz_0, List.length_cons, List.length_nil, ↓reduceIte, true_and, and_true, Int.reduceLE, Int.reduceLT, Int.reduceEq, not_true_eq_false, not_false_eq_true, false_or, or_false, true_or, or_true, ite_not, Int.reduceNeg, Int32.reduceToInt, Nat.reduceAdd, Nat.reduceLeDiff, Nat.reduceLT, Nat.reduceEqDiff, Int.reduceAdd, Int.reduceSub, Int.reduceMul, Nat.zero_le, pk_po_ne, pk_po_eq, pk_po_ix, rI, ne_eq, ↓R120, hd, hg, hm, ho, g1, g2, bi_wz, bi_0, decide_eq_false_iff_not, ↓R119v (M := M) (c := 1) (k := 0) h0 rfl (by decide) (by decide), ↓R119v (M := M) (c := 2) (k := 1) h0 rfl (by decide) (by decide), mrg]
  (try simp (disch := omega) only [↓x_al_0, ↓x_il_1, ↓x_c, ↓gi_142_23, ↓x_isub, ↓c_120, ↓x_eq0, ↓x_il_2, ↓gi_142_22, ↓x_go, ↓x_il_5, ↓c_119, ↓x_il_3, ↓x_il_4, ↓x_iadd, ↓x_irz, ↓n_156, ↓s_156_0, ↓s_156_33, ↓s_156_34, ↓s_156_69, ↓s_156_85, ↓bk_v, ↓bk_n, ↓bk_r, ↓pv_i, ↓pv_r, ↓pv_0, ↓pv_l, wz_pk, wz_ti, wz_wz, vI_wz, wz_id, wz_0, List.length_cons, List.length_nil, ↓reduceIte, true_and, and_true, Int.reduceLE, Int.reduceLT, Int.reduceEq, not_true_eq_false, not_false_eq_true, false_or, or_false, true_or, or_true, ite_not, Int.reduceNeg, Int32.reduceToInt, Nat.reduceAdd, Nat.reduceLeDiff, Nat.reduceLT, Nat.reduceEqDiff, Int.reduceAdd, Int.reduceSub, Int.reduceMul, Nat.zero_le, pk_po_ne, pk_po_eq, pk_po_ix, rI, ne_eq, ↓R120, hd, hg, hm, ho, g1, g2, bi_wz, bi_0, decide_eq_false_iff_not, ↓R119v (M := M) (c := 1) (k := 0) h0 rfl (by decide) (by decide), ↓R119v (M := M) (c := 2) (k := 1) h0 rfl (by decide) (by decide), mrg])
  (try simp (disch := omega) only [↓x_al_0, ↓x_il_1, ↓x_c, ↓gi_142_23, ↓x_isub, ↓c_120, ↓x_eq0, ↓x_il_2, ↓gi_142_22, ↓x_go, ↓x_il_5, ↓c_119, ↓x_il_3, ↓x_il_4, ↓x_iadd, ↓x_irz, ↓n_156, ↓s_156_0, ↓s_156_33, ↓s_156_34, ↓s_156_69, ↓s_156_70, ↓s_156_85, ↓bk_v, ↓bk_n, ↓bk_r, ↓pv_i, ↓pv_r, ↓pv_0, ↓pv_l, wz_pk, wz_ti, wz_wz, vI_wz, wz_id, wz_0, List.length_cons, List.length_nil, ↓reduceIte, true_and, and_true, Int.reduceLE, Int.reduceLT, Int.reduceEq, not_true_eq_false, not_false_eq_true, false_or, or_false, true_or, or_true, ite_not, Int.reduceNeg, Int32.reduceToInt, Nat.reduceAdd, Nat.reduceLeDiff, Nat.reduceLT, Nat.reduceEqDiff, Int.reduceAdd, Int.reduceSub, Int.reduceMul, Nat.zero_le, pk_po_ne, pk_po_eq, pk_po_ix, rI, ne_eq, ↓R120, hd, hg, hm, ho, g1, g2, bi_wz, bi_0, decide_eq_false_iff_not, ↓R119v (M := M) (c := 1) (k := 0) h0 rfl (by decide) (by decide), ↓R119v (M := M) (c := 2) (k := 1) h0 rfl (by decide) (by decide), mrg])
  (try simp (disch := omega) only [↓x_al_0, ↓x_il_1, ↓x_c, ↓gi_142_23, ↓x_isub, ↓c_120, ↓x_eq0, ↓x_il_2, ↓gi_142_22, ↓x_go, ↓x_il_5, ↓c_119, ↓x_il_3, ↓x_il_4, ↓x_iadd, ↓x_irz, ↓n_156, ↓s_156_0, ↓s_156_33, ↓s_156_34, ↓s_156_69, ↓s_156_70, ↓s_156_85, ↓s_156_86, ↓bk_v, ↓bk_n, ↓bk_r, ↓pv_i, ↓pv_r, ↓pv_0, ↓pv_l, wz_pk, wz_ti, wz_wz, vI_wz, wz_id, wz_0, List.length_cons, List.length_nil, ↓reduceIte, true_and, and_true, Int.reduceLE, Int.reduceLT, Int.reduceEq, not_true_eq_false, not_false_eq_true, false_or, or_false, true_or, or_true, ite_not, Int.reduceNeg, Int32.reduceToInt, Nat.reduceAdd, Nat.reduceLeDiff, Nat.reduceLT, Nat.reduceEqDiff, Int.reduceAdd, Int.reduceSub, Int.reduceMul, Nat.zero_le, pk_po_ne, pk_po_eq, pk_po_ix, rI, ne_eq, ↓R120, hd, hg, hm, ho, g1, g2, bi_wz, bi_0, decide_eq_false_iff_not, ↓R119v (M := M) (c := 1) (k := 0) h0 rfl (by decide) (by decide), ↓R119v (M := M) (c := 2) (k := 1) h0 rfl (by decide) (by decide), mrg])
  clear hR hH
  by_cases h1 : 0 ≤ d ∧ d < S 3 2
  · by_cases h2 : 0 ≤ g ∧ g < S 3 1
    · by_cases h3 : 0 ≤ m ∧ m ≤ 9999
      · by_cases h4 : 0 ≤ o ∧ o ≤ 2
        · grind
        · grind
      · grind
    · grind
  · grind
theorem R157 {d g m o : Int} (hR : RR S M) (hH : hou S) (hL : wfl S) (hI : crs S 78) (hd : wz d = d) (hg : wz g = g) (hm : wz m = m) (ho : wz o = o) (hP : PR X s dh dl t M Q cB (o_bars S d g m o)) : CL 157 [.ref 142, vI d, vI g, vI m, vI o] (mkh X s dh dl t M) Q := by
  have hR0 := hR.pw (a := 142) (i := 0) (x := 0) rfl
  have hF0 : FR M (po M 142 0 0) := FR.rfl.pw (by decide)
  simp only [↓x_al_0, ↓x_c, ↓pi_142_0, ↓x_il_1, ↓x_il_2, ↓x_il_3, ↓x_il_4, ↓c_156, ↓x_ne0, ↓x_ir, ↓c_155, ↓n_157, ↓s_157_0, ↓s_157_20, ↓bk_v, ↓bk_n, ↓bk_r, ↓pv_i, ↓pv_r, ↓pv_0, ↓pv_l, wz_pk, wz_ti, wz_wz, vI_wz, wz_id, wz_0, List.length_cons, List.length_nil, ↓reduceIte, true_and, and_true, Int.reduceLE, Int.reduceLT, Int.reduceEq, not_true_eq_false, not_false_eq_true, false_or, or_false, true_or, or_true, ite_not, Int.reduceNeg, Int32.reduceToInt, Nat.reduceAdd, Nat.reduceLeDiff, Nat.reduceLT, Nat.reduceEqDiff, Int.reduceAdd, Int.reduceSub, Int.reduceMul, Nat.zero_le, pk_po_ne, pk_po_eq, pk_po_ix, rI, ne_eq, ↓R156 hR0 hH th0 hd hg hm ho]
  by_cases h1 : (0 ≤ d ∧ d < S 3 2) ∧ (0 ≤ g ∧ g < S 3 1)
  · rw [if_pos h1]
    by_cases h2 : (0 ≤ m ∧ m ≤ 9999) ∧ (0 ≤ o ∧ o ≤ 2)
    · rw [if_pos h2]
      refine R155 hR0 hH hL hI h1.1 h1.2 h2.1 h2.2 (Or.inl ⟨rfl, rfl⟩) ?_
      intro M1 s1
      have e := hP.ok (M' := M1) (by rw [o_bars, tkR, if_pos h1, if_pos h2]) (hR0.sf s1) (hF0.trans s1.1) (by rw [s1.th]; exact th0)
      have hb := barOf_rng (f := fct S d g m o m) hL
      simp (disch := omega) only [↓x_al_0, ↓x_c, ↓pi_142_0, ↓x_il_1, ↓x_il_2, ↓x_il_3, ↓x_il_4, ↓c_156, ↓x_ne0, ↓x_ir, ↓c_155, ↓n_157, ↓s_157_0, ↓s_157_20, ↓bk_v, ↓bk_n, ↓bk_r, ↓pv_i, ↓pv_r, ↓pv_0, ↓pv_l, wz_pk, wz_ti, wz_wz, vI_wz, wz_id, wz_0, List.length_cons, List.length_nil, ↓reduceIte, true_and, and_true, Int.reduceLE, Int.reduceLT, Int.reduceEq, not_true_eq_false, not_false_eq_true, false_or, or_false, true_or, or_true, ite_not, Int.reduceNeg, Int32.reduceToInt, Nat.reduceAdd, Nat.reduceLeDiff, Nat.reduceLT, Nat.reduceEqDiff, Int.reduceAdd, Int.reduceSub, Int.reduceMul, Nat.zero_le, pk_po_ne, pk_po_eq, pk_po_ix, rI, ne_eq]
      exact e
    · rw [if_neg h2]
      exact hP.no 2 (by decide) (by rw [o_bars, tkR, if_pos h1, if_neg h2]) (hR0.ref (by decide)) hF0.rfM (rfM_t rfl)
  · rw [if_neg h1]
    exact hP.no 1 (by decide) (by rw [o_bars, tkR, if_neg h1]) (hR0.ref (by decide)) hF0.rfM (rfM_t rfl)
theorem R158 {d g m o : Int} (hR : RR S M) (hH : hou S) (hL : wfl S) (hI : crs S 78) (hd : wz d = d) (hg : wz g = g) (hm : wz m = m) (ho : wz o = o) (hP : PR X s dh dl t M Q cB (o_late S d g m o)) : CL 158 [.ref 142, vI d, vI g, vI m, vI o] (mkh X s dh dl t M) Q := by
  have hR0 := hR.pw (a := 142) (i := 0) (x := 0) rfl
  have hF0 : FR M (po M 142 0 0) := FR.rfl.pw (by decide)
  simp only [↓x_al_0, ↓x_c, ↓pi_142_0, ↓x_il_1, ↓x_il_2, ↓x_il_3, ↓x_il_4, ↓c_156, ↓x_ne0, ↓x_ir, ↓c_155, ↓n_158, ↓s_158_0, ↓s_158_20, ↓bk_v, ↓bk_n, ↓bk_r, ↓pv_i, ↓pv_r, ↓pv_0, ↓pv_l, wz_pk, wz_ti, wz_wz, vI_wz, wz_id, wz_0, List.length_cons, List.length_nil, ↓reduceIte, true_and, and_true, Int.reduceLE, Int.reduceLT, Int.reduceEq, not_true_eq_false, not_false_eq_true, false_or, or_false, true_or, or_true, ite_not, Int.reduceNeg, Int32.reduceToInt, Nat.reduceAdd, Nat.reduceLeDiff, Nat.reduceLT, Nat.reduceEqDiff, Int.reduceAdd, Int.reduceSub, Int.reduceMul, Nat.zero_le, pk_po_ne, pk_po_eq, pk_po_ix, rI, ne_eq, ↓R156 hR0 hH th0 hd hg hm ho]
  by_cases h1 : (0 ≤ d ∧ d < S 3 2) ∧ (0 ≤ g ∧ g < S 3 1)
  · rw [if_pos h1]
    by_cases h2 : (0 ≤ m ∧ m ≤ 9999) ∧ (0 ≤ o ∧ o ≤ 2)
    · rw [if_pos h2]
      refine R155 hR0 hH hL hI h1.1 h1.2 h2.1 h2.2 (Or.inr ⟨rfl, rfl⟩) ?_
      intro M1 s1
      have e := hP.ok (M' := M1) (by rw [o_late, tkR, if_pos h1, if_pos h2]) (hR0.sf s1) (hF0.trans s1.1) (by rw [s1.th]; exact th0)
      have hb := barOf_rng (f := fct S d g m o 9999) hL
      simp (disch := omega) only [↓x_al_0, ↓x_c, ↓pi_142_0, ↓x_il_1, ↓x_il_2, ↓x_il_3, ↓x_il_4, ↓c_156, ↓x_ne0, ↓x_ir, ↓c_155, ↓n_158, ↓s_158_0, ↓s_158_20, ↓bk_v, ↓bk_n, ↓bk_r, ↓pv_i, ↓pv_r, ↓pv_0, ↓pv_l, wz_pk, wz_ti, wz_wz, vI_wz, wz_id, wz_0, List.length_cons, List.length_nil, ↓reduceIte, true_and, and_true, Int.reduceLE, Int.reduceLT, Int.reduceEq, not_true_eq_false, not_false_eq_true, false_or, or_false, true_or, or_true, ite_not, Int.reduceNeg, Int32.reduceToInt, Nat.reduceAdd, Nat.reduceLeDiff, Nat.reduceLT, Nat.reduceEqDiff, Int.reduceAdd, Int.reduceSub, Int.reduceMul, Nat.zero_le, pk_po_ne, pk_po_eq, pk_po_ix, rI, ne_eq]
      exact e
    · rw [if_neg h2]
      exact hP.no 2 (by decide) (by rw [o_late, tkR, if_pos h1, if_neg h2]) (hR0.ref (by decide)) hF0.rfM (rfM_t rfl)
  · rw [if_neg h1]
    exact hP.no 1 (by decide) (by rw [o_late, tkR, if_neg h1]) (hR0.ref (by decide)) hF0.rfM (rfM_t rfl)
theorem R159 {r d g m o : Int} (hR : RR S M) (hH : hou S) (hL : wfl S) (hI : crs S 78) (hr : wz r = r) (hd : wz d = d) (hg : wz g = g) (hm : wz m = m) (ho : wz o = o) (hP : PR X s dh dl t M Q cB (o_isSo S r d g m o)) : CL 159 [.ref 142, vI r, vI d, vI g, vI m, vI o] (mkh X s dh dl t M) Q := by
  have n1 := hL.nr
  have g1 := hR.l.nr
  have hR0 := hR.pw (a := 142) (i := 0) (x := 0) rfl
  have hF0 : FR M (po M 142 0 0) := FR.rfl.pw (by decide)
  simp (disch := omega) only [↓x_al_0, ↓x_c, ↓pi_142_0, ↓x_il_1, ↓gi_142_31, ↓x_isub, ↓c_120, ↓c_119, ↓x_eq0, ↓x_il_2, ↓x_il_3, ↓x_il_4, ↓x_il_5, ↓c_156, ↓x_ne0, ↓x_irz, ↓c_152, ↓c_154, ↓n_159, ↓s_159_0, ↓s_159_39, ↓s_159_41, ↓bk_v, ↓bk_n, ↓bk_r, ↓pv_i, ↓pv_r, ↓pv_0, ↓pv_l, wz_pk, wz_ti, wz_wz, vI_wz, wz_id, wz_0, List.length_cons, List.length_nil, ↓reduceIte, true_and, and_true, Int.reduceLE, Int.reduceLT, Int.reduceEq, not_true_eq_false, not_false_eq_true, false_or, or_false, true_or, or_true, ite_not, Int.reduceNeg, Int32.reduceToInt, Nat.reduceAdd, Nat.reduceLeDiff, Nat.reduceLT, Nat.reduceEqDiff, Int.reduceAdd, Int.reduceSub, Int.reduceMul, Nat.zero_le, pk_po_ne, pk_po_eq, pk_po_ix, rI, ne_eq, ↓R120, ↓R119 (M := po M 142 0 0) (c := 1) (k := 0) th0 rfl (by decide) (by decide), hr, g1, decide_eq_true_eq, ↓R156 hR0 hH th0 hd hg hm ho]
  by_cases h : 0 ≤ r ∧ r < S 63 0
  · rw [if_pos (by omega)]
    by_cases h1 : (0 ≤ d ∧ d < S 3 2) ∧ (0 ≤ g ∧ g < S 3 1)
    · rw [if_pos h1]
      by_cases h2 : (0 ≤ m ∧ m ≤ 9999) ∧ (0 ≤ o ∧ o ≤ 2)
      · rw [if_pos h2]
        refine R152 hR0 hH hI h1.1 h1.2 h2.1 h2.2 (Or.inl ⟨rfl, rfl⟩) ?_
        intro M1 s1 f1
        have hF1 := fct_FA (hR0.sf s1) hH h1.1 h1.2 f1
        simp (disch := omega) only [↓x_al_0, ↓x_c, ↓pi_142_0, ↓x_il_1, ↓gi_142_31, ↓x_isub, ↓c_120, ↓c_119, ↓x_eq0, ↓x_il_2, ↓x_il_3, ↓x_il_4, ↓x_il_5, ↓c_156, ↓x_ne0, ↓x_irz, ↓c_152, ↓c_154, ↓n_159, ↓s_159_0, ↓s_159_39, ↓s_159_41, ↓bk_v, ↓bk_n, ↓bk_r, ↓pv_i, ↓pv_r, ↓pv_0, ↓pv_l, wz_pk, wz_ti, wz_wz, vI_wz, wz_id, wz_0, List.length_cons, List.length_nil, ↓reduceIte, true_and, and_true, Int.reduceLE, Int.reduceLT, Int.reduceEq, not_true_eq_false, not_false_eq_true, false_or, or_false, true_or, or_true, ite_not, Int.reduceNeg, Int32.reduceToInt, Nat.reduceAdd, Nat.reduceLeDiff, Nat.reduceLT, Nat.reduceEqDiff, Int.reduceAdd, Int.reduceSub, Int.reduceMul, Nat.zero_le, pk_po_ne, pk_po_eq, pk_po_ix, rI, ne_eq]
        refine R154 (hR0.sf s1).l hL hF1 h ?_
        intro M2 hM2
        have s2 := s1.fr hM2
        have e := hP.ok (M' := M2) (by rw [o_isSo, if_pos h, tkR, if_pos h1, if_pos h2]) (hR0.sf s2) (hF0.trans s2.1) (by rw [s2.th]; exact th0)
        simp (disch := omega) only [↓x_al_0, ↓x_c, ↓pi_142_0, ↓x_il_1, ↓gi_142_31, ↓x_isub, ↓c_120, ↓c_119, ↓x_eq0, ↓x_il_2, ↓x_il_3, ↓x_il_4, ↓x_il_5, ↓c_156, ↓x_ne0, ↓x_irz, ↓c_152, ↓c_154, ↓n_159, ↓s_159_0, ↓s_159_39, ↓s_159_41, ↓bk_v, ↓bk_n, ↓bk_r, ↓pv_i, ↓pv_r, ↓pv_0, ↓pv_l, wz_pk, wz_ti, wz_wz, vI_wz, wz_id, wz_0, List.length_cons, List.length_nil, ↓reduceIte, true_and, and_true, Int.reduceLE, Int.reduceLT, Int.reduceEq, not_true_eq_false, not_false_eq_true, false_or, or_false, true_or, or_true, ite_not, Int.reduceNeg, Int32.reduceToInt, Nat.reduceAdd, Nat.reduceLeDiff, Nat.reduceLT, Nat.reduceEqDiff, Int.reduceAdd, Int.reduceSub, Int.reduceMul, Nat.zero_le, pk_po_ne, pk_po_eq, pk_po_ix, rI, ne_eq]
        refine ⟨?_, e⟩
        rw [bi_wz]
        unfold bi
        split <;> simp
      · rw [if_neg h2]
        exact hP.no 2 (by decide) (by rw [o_isSo, if_pos h, tkR, if_pos h1, if_neg h2]) (hR0.ref (by decide)) hF0.rfM (rfM_t rfl)
    · rw [if_neg h1]
      exact hP.no 1 (by decide) (by rw [o_isSo, if_pos h, tkR, if_neg h1]) (hR0.ref (by decide)) hF0.rfM (rfM_t rfl)
  · rw [if_neg (by omega)]
    exact hP.no 1 (by decide) (by rw [o_isSo, if_neg h]) (hR0.ref (by decide)) hF0.rfM (rfM_t rfl)
theorem R160 {d g m o : Int} (hR : RR S M) (hH : hou S) (hL : wfl S) (hI : crs S 78) (hd : wz d = d) (hg : wz g = g) (hm : wz m = m) (ho : wz o = o) (hP : PR X s dh dl t M Q cB (o_when S d g m o)) : CL 160 [.ref 142, vI d, vI g, vI m, vI o] (mkh X s dh dl t M) Q := by
  have hR0 := hR.pw (a := 142) (i := 0) (x := 0) rfl
  have hF0 : FR M (po M 142 0 0) := FR.rfl.pw (by decide)
  simp only [↓x_al_0, ↓x_c, ↓pi_142_0, ↓x_il_1, ↓x_il_2, ↓x_il_3, ↓x_il_4, ↓c_156, ↓x_ne0, ↓x_ir, ↓x_is_5, ↓x_il_5, ↓x_gt, ↓c_155, ↓x_ne, ↓x_inc_5, ↓x_go, ↓n_160, ↓s_160_0, ↓s_160_20, ↓s_160_49, ↓s_160_55, ↓bk_v, ↓bk_n, ↓bk_r, ↓pv_i, ↓pv_r, ↓pv_0, ↓pv_l, wz_pk, wz_ti, wz_wz, vI_wz, wz_id, wz_0, List.length_cons, List.length_nil, ↓reduceIte, true_and, and_true, Int.reduceLE, Int.reduceLT, Int.reduceEq, not_true_eq_false, not_false_eq_true, false_or, or_false, true_or, or_true, ite_not, Int.reduceNeg, Int32.reduceToInt, Nat.reduceAdd, Nat.reduceLeDiff, Nat.reduceLT, Nat.reduceEqDiff, Int.reduceAdd, Int.reduceSub, Int.reduceMul, Nat.zero_le, pk_po_ne, pk_po_eq, pk_po_ix, rI, ne_eq, ↓R156 hR0 hH th0 hd hg hm ho]
  by_cases h1 : (0 ≤ d ∧ d < S 3 2) ∧ (0 ≤ g ∧ g < S 3 1)
  · rw [if_pos h1]
    by_cases h2 : (0 ≤ m ∧ m ≤ 9999) ∧ (0 ≤ o ∧ o ≤ 2)
    · rw [if_pos h2]
      have key : ∀ M1, SF (po M 142 0 0) M1 → whenF S d g o ((10000 - m).toNat - 0) (m + (0 : Nat)) = whenF S d g o (10000 - m).toNat m → EX 160 (sx 160 23) [.ref 142, vI d, vI g, vI m, vI o, vI (m + (0 : Nat))] [] (mkh X s dh dl t M1) Q := by
        refine lp (n := (10000 - m).toNat) (fun n => ∀ M1, SF (po M 142 0 0) M1 → whenF S d g o ((10000 - m).toNat - n) (m + n) = whenF S d g o (10000 - m).toNat m → EX 160 (sx 160 23) [.ref 142, vI d, vI g, vI m, vI o, vI (m + n)] [] (mkh X s dh dl t M1) Q) ?_ ?_
        · intro M1 s1 h5
          rw [Nat.sub_self, whenF] at h5
          have e := hP.ok (M' := M1) (by rw [o_when, tkR, if_pos h1, if_pos h2]) (hR0.sf s1) (hF0.trans s1.1) (by rw [s1.th]; exact th0)
          rw [← h5] at e
          have e1 : (9999 : Int) < m + (10000 - m).toNat := by omega
          rw [s_160_23]
          simp (disch := omega) only [↓x_al_0, ↓x_c, ↓pi_142_0, ↓x_il_1, ↓x_il_2, ↓x_il_3, ↓x_il_4, ↓c_156, ↓x_ne0, ↓x_ir, ↓x_is_5, ↓x_il_5, ↓x_gt, ↓c_155, ↓x_ne, ↓x_inc_5, ↓x_go, ↓n_160, ↓s_160_0, ↓s_160_20, ↓s_160_49, ↓s_160_55, ↓bk_v, ↓bk_n, ↓bk_r, ↓pv_i, ↓pv_r, ↓pv_0, ↓pv_l, wz_pk, wz_ti, wz_wz, vI_wz, wz_id, wz_0, List.length_cons, List.length_nil, ↓reduceIte, true_and, and_true, Int.reduceLE, Int.reduceLT, Int.reduceEq, not_true_eq_false, not_false_eq_true, false_or, or_false, true_or, or_true, ite_not, Int.reduceNeg, Int32.reduceToInt, Nat.reduceAdd, Nat.reduceLeDiff, Nat.reduceLT, Nat.reduceEqDiff, Int.reduceAdd, Int.reduceSub, Int.reduceMul, Nat.zero_le, pk_po_ne, pk_po_eq, pk_po_ix, rI, ne_eq, e1, if_true]
          exact e
        · intro n hn ih M1 s1 h5
          have e1 : ¬ (9999 : Int) < m + n := by omega
          rw [show (10000 - m).toNat - n = ((10000 - m).toNat - (n + 1)) + 1 by omega, whenF] at h5
          rw [s_160_23]
          simp (disch := omega) only [↓x_al_0, ↓x_c, ↓pi_142_0, ↓x_il_1, ↓x_il_2, ↓x_il_3, ↓x_il_4, ↓c_156, ↓x_ne0, ↓x_ir, ↓x_is_5, ↓x_il_5, ↓x_gt, ↓c_155, ↓x_ne, ↓x_inc_5, ↓x_go, ↓n_160, ↓s_160_0, ↓s_160_20, ↓s_160_49, ↓s_160_55, ↓bk_v, ↓bk_n, ↓bk_r, ↓pv_i, ↓pv_r, ↓pv_0, ↓pv_l, wz_pk, wz_ti, wz_wz, vI_wz, wz_id, wz_0, List.length_cons, List.length_nil, ↓reduceIte, true_and, and_true, Int.reduceLE, Int.reduceLT, Int.reduceEq, not_true_eq_false, not_false_eq_true, false_or, or_false, true_or, or_true, ite_not, Int.reduceNeg, Int32.reduceToInt, Nat.reduceAdd, Nat.reduceLeDiff, Nat.reduceLT, Nat.reduceEqDiff, Int.reduceAdd, Int.reduceSub, Int.reduceMul, Nat.zero_le, pk_po_ne, pk_po_eq, pk_po_ix, rI, ne_eq, e1, if_false]
          refine R155 (hR0.sf s1) hH hL hI h1.1 h1.2 ⟨by omega, by omega⟩ h2.2 (Or.inl ⟨rfl, rfl⟩) ?_
          intro M2 s2
          replace s2 := s1.trans s2
          have hb := barOf_rng (f := fct S d g (m + n) o (m + n)) hL
          have eb : wz (barOf S (fct S d g (m + n) o (m + n))) = barOf S (fct S d g (m + n) o (m + n)) := wz_id (by omega) (by omega)
          have ih2 := ih M2 s2
          rw [show m + ((n + 1 : Nat) : Int) = m + n + 1 by omega] at ih2
          by_cases c2 : barOf S (fct S d g (m + n) o (m + n)) = -1
          · rw [if_pos (show barred S d g (m + n) o = -1 from c2)] at h5
            have e := hP.ok (M' := M2) (by rw [o_when, tkR, if_pos h1, if_pos h2]) (hR0.sf s2) (hF0.trans s2.1) (by rw [s2.th]; exact th0)
            rw [← h5] at e
            simp (disch := omega) only [↓x_al_0, ↓x_c, ↓pi_142_0, ↓x_il_1, ↓x_il_2, ↓x_il_3, ↓x_il_4, ↓c_156, ↓x_ne0, ↓x_ir, ↓x_is_5, ↓x_il_5, ↓x_gt, ↓c_155, ↓x_ne, ↓x_inc_5, ↓x_go, ↓n_160, ↓s_160_0, ↓s_160_20, ↓s_160_49, ↓s_160_55, ↓bk_v, ↓bk_n, ↓bk_r, ↓pv_i, ↓pv_r, ↓pv_0, ↓pv_l, wz_pk, wz_ti, wz_wz, vI_wz, wz_id, wz_0, List.length_cons, List.length_nil, ↓reduceIte, true_and, and_true, Int.reduceLE, Int.reduceLT, Int.reduceEq, not_true_eq_false, not_false_eq_true, false_or, or_false, true_or, or_true, ite_not, Int.reduceNeg, Int32.reduceToInt, Nat.reduceAdd, Nat.reduceLeDiff, Nat.reduceLT, Nat.reduceEqDiff, Int.reduceAdd, Int.reduceSub, Int.reduceMul, Nat.zero_le, pk_po_ne, pk_po_eq, pk_po_ix, rI, ne_eq, eb, c2, if_true]
            exact e
          · rw [if_neg (show ¬ barred S d g (m + n) o = -1 from c2)] at h5
            simp (disch := omega) only [↓x_al_0, ↓x_c, ↓pi_142_0, ↓x_il_1, ↓x_il_2, ↓x_il_3, ↓x_il_4, ↓c_156, ↓x_ne0, ↓x_ir, ↓x_is_5, ↓x_il_5, ↓x_gt, ↓c_155, ↓x_ne, ↓x_inc_5, ↓x_go, ↓n_160, ↓s_160_0, ↓s_160_20, ↓s_160_49, ↓s_160_55, ↓bk_v, ↓bk_n, ↓bk_r, ↓pv_i, ↓pv_r, ↓pv_0, ↓pv_l, wz_pk, wz_ti, wz_wz, vI_wz, wz_id, wz_0, List.length_cons, List.length_nil, ↓reduceIte, true_and, and_true, Int.reduceLE, Int.reduceLT, Int.reduceEq, not_true_eq_false, not_false_eq_true, false_or, or_false, true_or, or_true, ite_not, Int.reduceNeg, Int32.reduceToInt, Nat.reduceAdd, Nat.reduceLeDiff, Nat.reduceLT, Nat.reduceEqDiff, Int.reduceAdd, Int.reduceSub, Int.reduceMul, Nat.zero_le, pk_po_ne, pk_po_eq, pk_po_ix, rI, ne_eq, eb, c2, if_false]
            exact ih2 h5
      have key := key (po M 142 0 0) SF.rfl (by simp)
      simp only [Int.ofNat_zero, Int.add_zero] at key
      exact key
    · rw [if_neg h2]
      exact hP.no 2 (by decide) (by rw [o_when, tkR, if_pos h1, if_neg h2]) (hR0.ref (by decide)) hF0.rfM (rfM_t rfl)
  · rw [if_neg h1]
    exact hP.no 1 (by decide) (by rw [o_when, tkR, if_neg h1]) (hR0.ref (by decide)) hF0.rfM (rfM_t rfl)
theorem RRc.act {d g m o : Int} (h : RRc S M) (n1 : 0 ≤ S 78 0 ∧ S 78 0 ≤ 24) (hd : wz d = d) (hg : wz g = g) (hm : wz m = m) (ho : wz o = o) : RRc (addAct S d g m o) (po (po (po (po (po M 161 (4 * S 78 0) d) 161 (4 * S 78 0 + 1) g) 161 (4 * S 78 0 + 2) m) 161 (4 * S 78 0 + 3) o) 142 49 (S 78 0 + 1)) := by
  obtain ⟨b1, b2, b3, b4, b5, b6, b7, b8, b9, b10, b11, b12, b13⟩ := h
  have hw : wz (S 78 0 + 1) = S 78 0 + 1 := wz_id (by omega) (by omega)
  unfold addAct
  generalize hn : S 78 0 = n at *
  refine ⟨?_, ?_, ?_, ?_, ?_, ?_, ?_, ?_, ?_, ?_, ?_, ?_, ?_⟩
  · clear b2 b3 b4 b5 b6 b7 b8 b9 b11 b12 b13; simp only [pk_po, su]; grind
  · clear b3 b4 b5 b6 b7 b8 b9 b11 b12 b13; intro j u v; simp only [pk_po, su] at *; have := b2 j; grind
  · clear b2 b4 b5 b6 b7 b8 b9 b11 b12 b13; intro j u v; simp only [pk_po, su] at *; have := b3 j; grind
  · clear b2 b3 b5 b6 b7 b8 b9 b11 b12 b13; intro j u v; simp only [pk_po, su] at *; have := b4 j; grind
  · clear b2 b3 b4 b6 b7 b8 b9 b11 b12 b13; intro j u v; simp only [pk_po, su] at *; have := b5 j; grind
  · clear b2 b3 b4 b5 b7 b8 b9 b11 b12 b13; intro j u v; simp only [pk_po, su] at *; have := b6 j; grind
  · clear b2 b3 b4 b5 b6 b8 b9 b11 b12 b13; intro j u v; simp only [pk_po, su] at *; have := b7 j; grind
  · clear b2 b3 b4 b5 b6 b7 b9 b11 b12 b13; intro j u v; simp only [pk_po, su] at *; have := b8 j; grind
  · clear b2 b3 b4 b5 b6 b7 b8 b11 b12 b13; intro j u v; simp only [pk_po, su] at *; have := b9 j; grind
  · clear b2 b3 b4 b5 b6 b7 b8 b9 b11 b12 b13; simp only [pk_po, su]; grind
  · clear b2 b3 b4 b5 b6 b7 b8 b9 b12 b13; intro j u v; simp only [pk_po, su] at *; have := b11 j; grind
  · clear b2 b3 b4 b5 b6 b7 b8 b9 b11 b13; intro j u v; simp only [pk_po, su] at *; have := b12 j; grind
  · clear b2 b3 b4 b5 b6 b7 b8 b9 b11 b12; intro j u v; simp only [pk_po, su] at *; have := b13 j; grind
theorem lastM (hR : RR S M) (hI : crs S 78) : (if S 78 0 = 0 then (0 : Int) else pk M 161 (4 * S 78 0 - 2)) = lastMin S := by
  have n1 := c78_acts hI
  unfold lastMin
  by_cases h : S 78 0 = 0
  · rw [if_pos h, if_neg (by omega)]
  · rw [if_neg h, if_pos (by omega), ← hR.c.am (S 78 0 - 1) (by omega) (by omega)]
    congr 1
    omega
theorem R162l {d g m o : Int} (hR : RR S M) (hI : crs S 78) (hd : wz d = d) (hg : wz g = g) (hQ : EX 162 (sx 162 135) [.ref 142, vI d, vI g, vI m, vI o, vI (bi (listedFor S d g)), vI (S 78 0)] [] (mkh X s dh dl t M) Q) : EX 162 (sx 162 80) [.ref 142, vI d, vI g, vI m, vI o, vI 0, vI 0] [] (mkh X s dh dl t M) Q := by
  have n1 := c78_acts hI
  have g0 := hR.c.acts
  have key : EX 162 (sx 162 80) [.ref 142, vI d, vI g, vI m, vI o, vI (bi (exb (fun i => decide (S 80 i = g ∧ S 79 i = d)) (0 : Nat))), vI ((0 : Nat) : Int)] [] (mkh X s dh dl t M) Q := by
    refine lp (n := (S 78 0).toNat) (fun n => EX 162 (sx 162 80) [.ref 142, vI d, vI g, vI m, vI o, vI (bi (exb (fun i => decide (S 80 i = g ∧ S 79 i = d)) n)), vI n] [] (mkh X s dh dl t M) Q) ?_ ?_
    · have e1 : S 78 0 ≤ (S 78 0).toNat := by omega
      rw [s_162_80]
      simp (disch := omega) only [↓x_al_0, ↓x_c, ↓pi_142_0, ↓x_il_1, ↓x_il_2, ↓x_il_3, ↓x_il_4, ↓c_156, ↓x_eq0, ↓gi_142_49, ↓gr_142_43, ↓x_imul, ↓x_isub, ↓x_lt, ↓x_go, ↓c_119, ↓x_ne0, ↓x_ir, ↓c_155, ↓x_eq, ↓x_is_5, ↓x_is_6, ↓x_il_6, ↓x_ge, ↓x_il_5, ↓x_ne, ↓x_iadd, ↓x_inc_6, ↓gr_142_45, ↓gr_142_46, ↓gr_142_47, ↓x_dup_i, ↓x_dup_r, ↓pi_142_49, ↓ld_161, ↓st_161, ↓ld_163, ↓st_163, ↓ld_164, ↓st_164, ↓ld_165, ↓st_165, ↓n_162, ↓s_162_0, ↓s_162_43, ↓s_162_47, ↓s_162_48, ↓s_162_56, ↓s_162_58, ↓s_162_74, ↓s_162_122, ↓s_162_126, ↓s_162_127, ↓s_162_170, ↓s_162_173, ↓s_162_185, ↓bk_v, ↓bk_n, ↓bk_r, ↓pv_i, ↓pv_r, ↓pv_0, ↓pv_l, wz_pk, wz_ti, wz_wz, vI_wz, wz_id, wz_0, List.length_cons, List.length_nil, ↓reduceIte, true_and, and_true, Int.reduceLE, Int.reduceLT, Int.reduceEq, not_true_eq_false, not_false_eq_true, false_or, or_false, true_or, or_true, ite_not, Int.reduceNeg, Int32.reduceToInt, Nat.reduceAdd, Nat.reduceLeDiff, Nat.reduceLT, Nat.reduceEqDiff, Int.reduceAdd, Int.reduceSub, Int.reduceMul, Nat.zero_le, pk_po_ne, pk_po_eq, pk_po_ix, rI, ne_eq, g0, wz_of g0, e1, if_true]
      rw [show ((S 78 0).toNat : Int) = S 78 0 by omega]
      exact hQ
    · intro n hn ih
      have e1 : ¬ S 78 0 ≤ n := by omega
      have v1 := hR.c.ad n (by omega) (by omega)
      have v2 := hR.c.ag n (by omega) (by omega)
      have b1 : 4 * (n : Int) + 1 < 96 := by omega
      have b2 : 0 ≤ 4 * (n : Int) + 1 := by omega
      have b3 : 4 * (n : Int) < 96 := by omega
      have b4 : 0 ≤ 4 * (n : Int) := by omega
      simp only [exb] at ih
      rw [s_162_80]
      simp (disch := omega) only [↓x_al_0, ↓x_c, ↓pi_142_0, ↓x_il_1, ↓x_il_2, ↓x_il_3, ↓x_il_4, ↓c_156, ↓x_eq0, ↓gi_142_49, ↓gr_142_43, ↓x_imul, ↓x_isub, ↓x_lt, ↓x_go, ↓c_119, ↓x_ne0, ↓x_ir, ↓c_155, ↓x_eq, ↓x_is_5, ↓x_is_6, ↓x_il_6, ↓x_ge, ↓x_il_5, ↓x_ne, ↓x_iadd, ↓x_inc_6, ↓gr_142_45, ↓gr_142_46, ↓gr_142_47, ↓x_dup_i, ↓x_dup_r, ↓pi_142_49, ↓ld_161, ↓st_161, ↓ld_163, ↓st_163, ↓ld_164, ↓st_164, ↓ld_165, ↓st_165, ↓n_162, ↓s_162_0, ↓s_162_43, ↓s_162_47, ↓s_162_56, ↓s_162_58, ↓s_162_74, ↓s_162_122, ↓s_162_126, ↓s_162_170, ↓s_162_173, ↓s_162_185, ↓bk_v, ↓bk_n, ↓bk_r, ↓pv_i, ↓pv_r, ↓pv_0, ↓pv_l, wz_pk, wz_ti, wz_wz, vI_wz, wz_id, wz_0, List.length_cons, List.length_nil, ↓reduceIte, true_and, and_true, Int.reduceLE, Int.reduceLT, Int.reduceEq, not_true_eq_false, not_false_eq_true, false_or, or_false, true_or, or_true, ite_not, Int.reduceNeg, Int32.reduceToInt, Nat.reduceAdd, Nat.reduceLeDiff, Nat.reduceLT, Nat.reduceEqDiff, Int.reduceAdd, Int.reduceSub, Int.reduceMul, Nat.zero_le, pk_po_ne, pk_po_eq, pk_po_ix, rI, ne_eq, g0, wz_of g0, e1, if_false, v1, v2, wz_of v1, wz_of v2, b1, b2, b3, b4, hd, hg, bi_wz, bi_0, mrg]
      (try simp (disch := omega) only [↓x_al_0, ↓x_c, ↓pi_142_0, ↓x_il_1, ↓x_il_2, ↓x_il_3, ↓x_il_4, ↓c_156, ↓x_eq0, ↓gi_142_49, ↓gr_142_43, ↓x_imul, ↓x_isub, ↓x_lt, ↓x_go, ↓c_119, ↓x_ne0, ↓x_ir, ↓c_155, ↓x_eq, ↓x_is_5, ↓x_is_6, ↓x_il_6, ↓x_ge, ↓x_il_5, ↓x_ne, ↓x_iadd, ↓x_inc_6, ↓gr_142_45, ↓gr_142_46, ↓gr_142_47, ↓x_dup_i, ↓x_dup_r, ↓pi_142_49, ↓ld_161, ↓st_161, ↓ld_163, ↓st_163, ↓ld_164, ↓st_164, ↓ld_165, ↓st_165, ↓n_162, ↓s_162_0, ↓s_162_43, ↓s_162_47, ↓s_162_48, ↓s_162_56, ↓s_162_58, ↓s_162_74, ↓s_162_122, ↓s_162_126, ↓s_162_170, ↓s_162_173, ↓s_162_185, ↓bk_v, ↓bk_n, ↓bk_r, ↓pv_i, ↓pv_r, ↓pv_0, ↓pv_l, wz_pk, wz_ti, wz_wz, vI_wz, wz_id, wz_0, List.length_cons, List.length_nil, ↓reduceIte, true_and, and_true, Int.reduceLE, Int.reduceLT, Int.reduceEq, not_true_eq_false, not_false_eq_true, false_or, or_false, true_or, or_true, ite_not, Int.reduceNeg, Int32.reduceToInt, Nat.reduceAdd, Nat.reduceLeDiff, Nat.reduceLT, Nat.reduceEqDiff, Int.reduceAdd, Int.reduceSub, Int.reduceMul, Nat.zero_le, pk_po_ne, pk_po_eq, pk_po_ix, rI, ne_eq, g0, wz_of g0, e1, if_false, v1, v2, wz_of v1, wz_of v2, b1, b2, b3, b4, hd, hg, bi_wz, bi_0, mrg])
      (try simp (disch := omega) only [↓x_al_0, ↓x_c, ↓pi_142_0, ↓x_il_1, ↓x_il_2, ↓x_il_3, ↓x_il_4, ↓c_156, ↓x_eq0, ↓gi_142_49, ↓gr_142_43, ↓x_imul, ↓x_isub, ↓x_lt, ↓x_go, ↓c_119, ↓x_ne0, ↓x_ir, ↓c_155, ↓x_eq, ↓x_is_5, ↓x_is_6, ↓x_il_6, ↓x_ge, ↓x_il_5, ↓x_ne, ↓x_iadd, ↓x_inc_6, ↓gr_142_45, ↓gr_142_46, ↓gr_142_47, ↓x_dup_i, ↓x_dup_r, ↓pi_142_49, ↓ld_161, ↓st_161, ↓ld_163, ↓st_163, ↓ld_164, ↓st_164, ↓ld_165, ↓st_165, ↓n_162, ↓s_162_0, ↓s_162_43, ↓s_162_47, ↓s_162_48, ↓s_162_56, ↓s_162_58, ↓s_162_74, ↓s_162_122, ↓s_162_126, ↓s_162_127, ↓s_162_170, ↓s_162_173, ↓s_162_185, ↓bk_v, ↓bk_n, ↓bk_r, ↓pv_i, ↓pv_r, ↓pv_0, ↓pv_l, wz_pk, wz_ti, wz_wz, vI_wz, wz_id, wz_0, List.length_cons, List.length_nil, ↓reduceIte, true_and, and_true, Int.reduceLE, Int.reduceLT, Int.reduceEq, not_true_eq_false, not_false_eq_true, false_or, or_false, true_or, or_true, ite_not, Int.reduceNeg, Int32.reduceToInt, Nat.reduceAdd, Nat.reduceLeDiff, Nat.reduceLT, Nat.reduceEqDiff, Int.reduceAdd, Int.reduceSub, Int.reduceMul, Nat.zero_le, pk_po_ne, pk_po_eq, pk_po_ix, rI, ne_eq, g0, wz_of g0, e1, if_false, v1, v2, wz_of v1, wz_of v2, b1, b2, b3, b4, hd, hg, bi_wz, bi_0, mrg])
      have e2 : (↑(n + 1) : Int) = (n : Int) + 1 := by omega
      rw [e2] at ih
      refine cast (congrArg (fun x => EX 162 (sx 162 80) [.ref 142, vI d, vI g, vI m, vI o, vI x, vI ((n : Int) + 1)] [] (mkh X s dh dl t M) Q) ?_) ih
      clear ih
      unfold bi
      grind
  exact key
theorem R162 {d g m o : Int} (hR : RR S M) (hH : hou S) (hL : wfl S) (hI : crs S 78) (hd : wz d = d) (hg : wz g = g) (hm : wz m = m) (ho : wz o = o) (hP : PR X s dh dl t M Q cB (o_take S d g m o)) : CL 162 [.ref 142, vI d, vI g, vI m, vI o] (mkh X s dh dl t M) Q := by
  have n1 := c78_acts hI
  have n2 := hH.ng
  have n3 := hH.nd
  have hR0 := hR.pw (a := 142) (i := 0) (x := 0) rfl
  have hF0 : FR M (po M 142 0 0) := FR.rfl.pw (by decide)
  have g0 := hR.c.acts
  have lm := lastM hR0 hI
  have lz : wz (lastMin S) = lastMin S := by rw [← lm]; split; exact wz_0; exact wz_pk
  simp only [↓x_al_0, ↓x_c, ↓pi_142_0, ↓x_il_1, ↓x_il_2, ↓x_il_3, ↓x_il_4, ↓c_156, ↓x_eq0, ↓gi_142_49, ↓gr_142_43, ↓x_imul, ↓x_isub, ↓x_lt, ↓x_go, ↓c_119, ↓x_ne0, ↓x_ir, ↓c_155, ↓x_eq, ↓x_is_5, ↓x_is_6, ↓x_il_6, ↓x_ge, ↓x_il_5, ↓x_ne, ↓x_iadd, ↓x_inc_6, ↓gr_142_45, ↓gr_142_46, ↓gr_142_47, ↓x_dup_i, ↓x_dup_r, ↓pi_142_49, ↓ld_161, ↓st_161, ↓ld_163, ↓st_163, ↓ld_164, ↓st_164, ↓ld_165, ↓st_165, ↓n_162, ↓s_162_0, ↓s_162_43, ↓s_162_47, ↓s_162_56, ↓s_162_58, ↓s_162_74, ↓s_162_122, ↓s_162_126, ↓s_162_127, ↓s_162_135, ↓s_162_170, ↓s_162_173, ↓s_162_185, ↓bk_v, ↓bk_n, ↓bk_r, ↓pv_i, ↓pv_r, ↓pv_0, ↓pv_l, wz_pk, wz_ti, wz_wz, vI_wz, wz_id, wz_0, List.length_cons, List.length_nil, ↓reduceIte, true_and, and_true, Int.reduceLE, Int.reduceLT, Int.reduceEq, not_true_eq_false, not_false_eq_true, false_or, or_false, true_or, or_true, ite_not, Int.reduceNeg, Int32.reduceToInt, Nat.reduceAdd, Nat.reduceLeDiff, Nat.reduceLT, Nat.reduceEqDiff, Int.reduceAdd, Int.reduceSub, Int.reduceMul, Nat.zero_le, pk_po_ne, pk_po_eq, pk_po_ix, rI, ne_eq, ↓R156 hR0 hH th0 hd hg hm ho]
  by_cases h1 : (0 ≤ d ∧ d < S 3 2) ∧ (0 ≤ g ∧ g < S 3 1)
  · rw [if_pos h1]
    by_cases h2 : (0 ≤ m ∧ m ≤ 9999) ∧ (0 ≤ o ∧ o ≤ 2)
    · rw [if_pos h2]
      have main : ∀ st, st = (if m < lastMin S then (0 : Int) else 1) → EX 162 (sx 162 48) [.ref 142, vI d, vI g, vI m, vI o, .null, .null] [vI st, .ref 142] (mkh X s dh dl t (po M 142 0 0)) Q := by
        intro st hst
        rw [s_162_48]
        by_cases h3 : m < lastMin S
        · rw [if_pos h3] at hst
          subst hst
          simp only [↓x_al_0, ↓x_c, ↓pi_142_0, ↓x_il_1, ↓x_il_2, ↓x_il_3, ↓x_il_4, ↓c_156, ↓x_eq0, ↓gi_142_49, ↓gr_142_43, ↓x_imul, ↓x_isub, ↓x_lt, ↓x_go, ↓c_119, ↓x_ne0, ↓x_ir, ↓c_155, ↓x_eq, ↓x_is_5, ↓x_is_6, ↓x_il_6, ↓x_ge, ↓x_il_5, ↓x_ne, ↓x_iadd, ↓x_inc_6, ↓gr_142_45, ↓gr_142_46, ↓gr_142_47, ↓x_dup_i, ↓x_dup_r, ↓pi_142_49, ↓ld_161, ↓st_161, ↓ld_163, ↓st_163, ↓ld_164, ↓st_164, ↓ld_165, ↓st_165, ↓n_162, ↓s_162_0, ↓s_162_43, ↓s_162_47, ↓s_162_48, ↓s_162_56, ↓s_162_58, ↓s_162_74, ↓s_162_122, ↓s_162_126, ↓s_162_127, ↓s_162_135, ↓s_162_170, ↓s_162_173, ↓s_162_185, ↓bk_v, ↓bk_n, ↓bk_r, ↓pv_i, ↓pv_r, ↓pv_0, ↓pv_l, wz_pk, wz_ti, wz_wz, vI_wz, wz_id, wz_0, List.length_cons, List.length_nil, ↓reduceIte, true_and, and_true, Int.reduceLE, Int.reduceLT, Int.reduceEq, not_true_eq_false, not_false_eq_true, false_or, or_false, true_or, or_true, ite_not, Int.reduceNeg, Int32.reduceToInt, Nat.reduceAdd, Nat.reduceLeDiff, Nat.reduceLT, Nat.reduceEqDiff, Int.reduceAdd, Int.reduceSub, Int.reduceMul, Nat.zero_le, pk_po_ne, pk_po_eq, pk_po_ix, rI, ne_eq, ↓R119v (M := po M 142 0 0) (c := 3) (k := 2) th0 rfl (by decide) (by decide), if_true]
          exact hP.no 3 (by decide) (by rw [o_take, tkR, if_pos h1, if_pos h2, if_pos h3]) (hR0.ref (by decide)) hF0.rfM (rfM_t rfl)
        · rw [if_neg h3] at hst
          subst hst
          simp (disch := omega) only [↓x_al_0, ↓x_c, ↓pi_142_0, ↓x_il_1, ↓x_il_2, ↓x_il_3, ↓x_il_4, ↓c_156, ↓x_eq0, ↓gi_142_49, ↓gr_142_43, ↓x_imul, ↓x_isub, ↓x_lt, ↓x_go, ↓c_119, ↓x_ne0, ↓x_ir, ↓c_155, ↓x_eq, ↓x_is_5, ↓x_is_6, ↓x_il_6, ↓x_ge, ↓x_il_5, ↓x_ne, ↓x_iadd, ↓x_inc_6, ↓gr_142_45, ↓gr_142_46, ↓gr_142_47, ↓x_dup_i, ↓x_dup_r, ↓pi_142_49, ↓ld_161, ↓st_161, ↓ld_163, ↓st_163, ↓ld_164, ↓st_164, ↓ld_165, ↓st_165, ↓n_162, ↓s_162_0, ↓s_162_43, ↓s_162_47, ↓s_162_48, ↓s_162_56, ↓s_162_58, ↓s_162_74, ↓s_162_122, ↓s_162_126, ↓s_162_127, ↓s_162_135, ↓s_162_170, ↓s_162_173, ↓s_162_185, ↓bk_v, ↓bk_n, ↓bk_r, ↓pv_i, ↓pv_r, ↓pv_0, ↓pv_l, wz_pk, wz_ti, wz_wz, vI_wz, wz_id, wz_0, List.length_cons, List.length_nil, ↓reduceIte, true_and, and_true, Int.reduceLE, Int.reduceLT, Int.reduceEq, not_true_eq_false, not_false_eq_true, false_or, or_false, true_or, or_true, ite_not, Int.reduceNeg, Int32.reduceToInt, Nat.reduceAdd, Nat.reduceLeDiff, Nat.reduceLT, Nat.reduceEqDiff, Int.reduceAdd, Int.reduceSub, Int.reduceMul, Nat.zero_le, pk_po_ne, pk_po_eq, pk_po_ix, rI, ne_eq, ↓R119v (M := po M 142 0 0) (c := 3) (k := 2) th0 rfl (by decide) (by decide), if_false]
          refine R155 hR0 hH hL hI h1.1 h1.2 h2.1 h2.2 (Or.inl ⟨rfl, rfl⟩) ?_
          intro M1 s1
          have hR1 := hR0.sf s1
          have hF1 := hF0.trans s1.1
          have t1 : pk M1 142 0 = 0 := by rw [s1.th]; exact th0
          have hb := barOf_rng (f := fct S d g m o m) hL
          have eb : wz (barOf S (fct S d g m o m)) = barOf S (fct S d g m o m) := wz_id (by omega) (by omega)
          by_cases c2 : barOf S (fct S d g m o m) = -1
          · simp (disch := omega) only [↓x_al_0, ↓x_c, ↓pi_142_0, ↓x_il_1, ↓x_il_2, ↓x_il_3, ↓x_il_4, ↓c_156, ↓x_eq0, ↓gi_142_49, ↓gr_142_43, ↓x_imul, ↓x_isub, ↓x_lt, ↓x_go, ↓c_119, ↓x_ne0, ↓x_ir, ↓c_155, ↓x_eq, ↓x_is_5, ↓x_is_6, ↓x_il_6, ↓x_ge, ↓x_il_5, ↓x_ne, ↓x_iadd, ↓x_inc_6, ↓gr_142_45, ↓gr_142_46, ↓gr_142_47, ↓x_dup_i, ↓x_dup_r, ↓pi_142_49, ↓ld_161, ↓st_161, ↓ld_163, ↓st_163, ↓ld_164, ↓st_164, ↓ld_165, ↓st_165, ↓n_162, ↓s_162_0, ↓s_162_43, ↓s_162_47, ↓s_162_48, ↓s_162_56, ↓s_162_58, ↓s_162_74, ↓s_162_122, ↓s_162_126, ↓s_162_127, ↓s_162_135, ↓s_162_170, ↓s_162_173, ↓s_162_185, ↓bk_v, ↓bk_n, ↓bk_r, ↓pv_i, ↓pv_r, ↓pv_0, ↓pv_l, wz_pk, wz_ti, wz_wz, vI_wz, wz_id, wz_0, List.length_cons, List.length_nil, ↓reduceIte, true_and, and_true, Int.reduceLE, Int.reduceLT, Int.reduceEq, not_true_eq_false, not_false_eq_true, false_or, or_false, true_or, or_true, ite_not, Int.reduceNeg, Int32.reduceToInt, Nat.reduceAdd, Nat.reduceLeDiff, Nat.reduceLT, Nat.reduceEqDiff, Int.reduceAdd, Int.reduceSub, Int.reduceMul, Nat.zero_le, pk_po_ne, pk_po_eq, pk_po_ix, rI, ne_eq, eb, c2, if_true]
            refine R162l hR1 hI hd hg ?_
            have g1 := hR1.c.acts
            have g2 := hR1.c.sold g h1.2.1 (by omega)
            have g3 := hR1.c.given g h1.2.1 (by omega)
            have g4 := hR1.c.aside d h1.1.1 (by omega)
            have i3 := c78_given hI g h1.2.1 (by omega)
            have i4 := c78_aside hI d h1.1.1 (by omega)
            have o1 : g < 12 := by omega
            have o2 : 0 ≤ g := by omega
            have o3 : d < 6 := by omega
            have o4 : 0 ≤ d := by omega
            by_cases h4 : listedFor S d g = true ∨ gone S g = true ∨ ¬ S 85 d = 0
            · have e := hP.ok (M' := M1) (by rw [o_take, tkR, if_pos h1, if_pos h2, if_neg h3, if_neg (fun hx => hx c2), if_pos h4]) hR1 hF1 t1
              rw [s_162_135]
              simp (disch := omega) only [↓x_al_0, ↓x_c, ↓pi_142_0, ↓x_il_1, ↓x_il_2, ↓x_il_3, ↓x_il_4, ↓c_156, ↓x_eq0, ↓gi_142_49, ↓gr_142_43, ↓x_imul, ↓x_isub, ↓x_lt, ↓x_go, ↓c_119, ↓x_ne0, ↓x_ir, ↓c_155, ↓x_eq, ↓x_is_5, ↓x_is_6, ↓x_il_6, ↓x_ge, ↓x_il_5, ↓x_ne, ↓x_iadd, ↓x_inc_6, ↓gr_142_45, ↓gr_142_46, ↓gr_142_47, ↓x_dup_i, ↓x_dup_r, ↓pi_142_49, ↓ld_161, ↓st_161, ↓ld_163, ↓st_163, ↓ld_164, ↓st_164, ↓ld_165, ↓st_165, ↓n_162, ↓s_162_0, ↓s_162_43, ↓s_162_47, ↓s_162_48, ↓s_162_56, ↓s_162_58, ↓s_162_74, ↓s_162_122, ↓s_162_126, ↓s_162_127, ↓s_162_135, ↓s_162_170, ↓s_162_173, ↓s_162_185, ↓bk_v, ↓bk_n, ↓bk_r, ↓pv_i, ↓pv_r, ↓pv_0, ↓pv_l, wz_pk, wz_ti, wz_wz, vI_wz, wz_id, wz_0, List.length_cons, List.length_nil, ↓reduceIte, true_and, and_true, Int.reduceLE, Int.reduceLT, Int.reduceEq, not_true_eq_false, not_false_eq_true, false_or, or_false, true_or, or_true, ite_not, Int.reduceNeg, Int32.reduceToInt, Nat.reduceAdd, Nat.reduceLeDiff, Nat.reduceLT, Nat.reduceEqDiff, Int.reduceAdd, Int.reduceSub, Int.reduceMul, Nat.zero_le, pk_po_ne, pk_po_eq, pk_po_ix, rI, ne_eq, g1, g2, g3, g4, o1, o2, o3, o4, bi_wz, bi_0, wz_of g2, wz_of g3, wz_of g4]
              clear hP hR hR0 hR1 hF0 hF1 s1 hI hL hH
              unfold gone at h4
              simp only [decide_eq_true_eq] at h4
              cases hl : listedFor S d g <;> grind
            · rw [s_162_135]
              have h5 : listedFor S d g = false ∧ S 83 g = -1 ∧ S 84 g = 0 ∧ S 85 d = 0 := by
                unfold gone at h4
                simp only [decide_eq_true_eq] at h4
                cases hl : listedFor S d g <;> simp [hl] at h4 ⊢
                omega
              by_cases h6 : 24 ≤ S 78 0
              · have e := hP.ok (M' := M1) (by rw [o_take, tkR, if_pos h1, if_pos h2, if_neg h3, if_neg (fun hx => hx c2), if_neg h4, if_pos h6]) hR1 hF1 t1
                have h7 : S 78 0 = 24 := by omega
                simp (disch := omega) only [↓x_al_0, ↓x_c, ↓pi_142_0, ↓x_il_1, ↓x_il_2, ↓x_il_3, ↓x_il_4, ↓c_156, ↓x_eq0, ↓gi_142_49, ↓gr_142_43, ↓x_imul, ↓x_isub, ↓x_lt, ↓x_go, ↓c_119, ↓x_ne0, ↓x_ir, ↓c_155, ↓x_eq, ↓x_is_5, ↓x_is_6, ↓x_il_6, ↓x_ge, ↓x_il_5, ↓x_ne, ↓x_iadd, ↓x_inc_6, ↓gr_142_45, ↓gr_142_46, ↓gr_142_47, ↓x_dup_i, ↓x_dup_r, ↓pi_142_49, ↓ld_161, ↓st_161, ↓ld_163, ↓st_163, ↓ld_164, ↓st_164, ↓ld_165, ↓st_165, ↓n_162, ↓s_162_0, ↓s_162_43, ↓s_162_47, ↓s_162_48, ↓s_162_56, ↓s_162_58, ↓s_162_74, ↓s_162_122, ↓s_162_126, ↓s_162_127, ↓s_162_135, ↓s_162_170, ↓s_162_173, ↓s_162_185, ↓bk_v, ↓bk_n, ↓bk_r, ↓pv_i, ↓pv_r, ↓pv_0, ↓pv_l, wz_pk, wz_ti, wz_wz, vI_wz, wz_id, wz_0, List.length_cons, List.length_nil, ↓reduceIte, true_and, and_true, Int.reduceLE, Int.reduceLT, Int.reduceEq, not_true_eq_false, not_false_eq_true, false_or, or_false, true_or, or_true, ite_not, Int.reduceNeg, Int32.reduceToInt, Nat.reduceAdd, Nat.reduceLeDiff, Nat.reduceLT, Nat.reduceEqDiff, Int.reduceAdd, Int.reduceSub, Int.reduceMul, Nat.zero_le, pk_po_ne, pk_po_eq, pk_po_ix, rI, ne_eq, g1, g2, g3, g4, o1, o2, o3, o4, h5.1, h5.2.1, h5.2.2.1, h5.2.2.2, bi, Bool.false_eq_true, if_false, if_true, h7]
                exact e
              · have e := hP.ok (M' := po (po (po (po (po M1 161 (4 * S 78 0) d) 161 (4 * S 78 0 + 1) g) 161 (4 * S 78 0 + 2) m) 161 (4 * S 78 0 + 3) o) 142 49 (S 78 0 + 1)) (by rw [o_take, tkR, if_pos h1, if_pos h2, if_neg h3, if_neg (fun hx => hx c2), if_neg h4, if_neg h6]) ?_ (((((hF1.pw (by decide)).pw (by decide)).pw (by decide)).pw (by decide)).pw (by decide)) (by rw [pk_po_ix (by decide), pk_po_ne (by decide), pk_po_ne (by decide), pk_po_ne (by decide), pk_po_ne (by decide)]; exact t1)
                · have h7 : ¬ S 78 0 = 24 := by omega
                  simp (disch := omega) only [↓x_al_0, ↓x_c, ↓pi_142_0, ↓x_il_1, ↓x_il_2, ↓x_il_3, ↓x_il_4, ↓c_156, ↓x_eq0, ↓gi_142_49, ↓gr_142_43, ↓x_imul, ↓x_isub, ↓x_lt, ↓x_go, ↓c_119, ↓x_ne0, ↓x_ir, ↓c_155, ↓x_eq, ↓x_is_5, ↓x_is_6, ↓x_il_6, ↓x_ge, ↓x_il_5, ↓x_ne, ↓x_iadd, ↓x_inc_6, ↓gr_142_45, ↓gr_142_46, ↓gr_142_47, ↓x_dup_i, ↓x_dup_r, ↓pi_142_49, ↓ld_161, ↓st_161, ↓ld_163, ↓st_163, ↓ld_164, ↓st_164, ↓ld_165, ↓st_165, ↓n_162, ↓s_162_0, ↓s_162_43, ↓s_162_47, ↓s_162_48, ↓s_162_56, ↓s_162_58, ↓s_162_74, ↓s_162_122, ↓s_162_126, ↓s_162_127, ↓s_162_135, ↓s_162_170, ↓s_162_173, ↓s_162_185, ↓bk_v, ↓bk_n, ↓bk_r, ↓pv_i, ↓pv_r, ↓pv_0, ↓pv_l, wz_pk, wz_ti, wz_wz, vI_wz, wz_id, wz_0, List.length_cons, List.length_nil, ↓reduceIte, true_and, and_true, Int.reduceLE, Int.reduceLT, Int.reduceEq, not_true_eq_false, not_false_eq_true, false_or, or_false, true_or, or_true, ite_not, Int.reduceNeg, Int32.reduceToInt, Nat.reduceAdd, Nat.reduceLeDiff, Nat.reduceLT, Nat.reduceEqDiff, Int.reduceAdd, Int.reduceSub, Int.reduceMul, Nat.zero_le, pk_po_ne, pk_po_eq, pk_po_ix, rI, ne_eq, g1, g2, g3, g4, o1, o2, o3, o4, h5.1, h5.2.1, h5.2.2.1, h5.2.2.2, bi, Bool.false_eq_true, if_false, if_true, h7]
                  rw [show S 78 0 + 1 - 1 = S 78 0 by omega] at *
                  exact ⟨by omega, by omega, by omega, by omega, e⟩
                · refine hR1.upC (fun a ha => by funext j; simp only [addAct, su]; grind) (fun a i h1 h2 => ?_) ?_
                  · simp only [rstC, Bool.or_eq_false_iff, Bool.and_eq_false_iff, decide_eq_false_iff_not] at h2
                    simp only [pk_po]
                    grind
                  · exact hR1.c.act n1 hd hg hm ho
          · have e := hP.ok (M' := M1) (by rw [o_take, tkR, if_pos h1, if_pos h2, if_neg h3, if_pos (show ¬ barred S d g m o = -1 from c2)]) hR1 hF1 t1
            simp (disch := omega) only [↓x_al_0, ↓x_c, ↓pi_142_0, ↓x_il_1, ↓x_il_2, ↓x_il_3, ↓x_il_4, ↓c_156, ↓x_eq0, ↓gi_142_49, ↓gr_142_43, ↓x_imul, ↓x_isub, ↓x_lt, ↓x_go, ↓c_119, ↓x_ne0, ↓x_ir, ↓c_155, ↓x_eq, ↓x_is_5, ↓x_is_6, ↓x_il_6, ↓x_ge, ↓x_il_5, ↓x_ne, ↓x_iadd, ↓x_inc_6, ↓gr_142_45, ↓gr_142_46, ↓gr_142_47, ↓x_dup_i, ↓x_dup_r, ↓pi_142_49, ↓ld_161, ↓st_161, ↓ld_163, ↓st_163, ↓ld_164, ↓st_164, ↓ld_165, ↓st_165, ↓n_162, ↓s_162_0, ↓s_162_43, ↓s_162_47, ↓s_162_48, ↓s_162_56, ↓s_162_58, ↓s_162_74, ↓s_162_122, ↓s_162_126, ↓s_162_127, ↓s_162_135, ↓s_162_170, ↓s_162_173, ↓s_162_185, ↓bk_v, ↓bk_n, ↓bk_r, ↓pv_i, ↓pv_r, ↓pv_0, ↓pv_l, wz_pk, wz_ti, wz_wz, vI_wz, wz_id, wz_0, List.length_cons, List.length_nil, ↓reduceIte, true_and, and_true, Int.reduceLE, Int.reduceLT, Int.reduceEq, not_true_eq_false, not_false_eq_true, false_or, or_false, true_or, or_true, ite_not, Int.reduceNeg, Int32.reduceToInt, Nat.reduceAdd, Nat.reduceLeDiff, Nat.reduceLT, Nat.reduceEqDiff, Int.reduceAdd, Int.reduceSub, Int.reduceMul, Nat.zero_le, pk_po_ne, pk_po_eq, pk_po_ix, rI, ne_eq, eb, c2, if_false]
            exact e
      by_cases h7 : S 78 0 = 0
      · simp (disch := omega) only [↓x_al_0, ↓x_c, ↓pi_142_0, ↓x_il_1, ↓x_il_2, ↓x_il_3, ↓x_il_4, ↓c_156, ↓x_eq0, ↓gi_142_49, ↓gr_142_43, ↓x_imul, ↓x_isub, ↓x_lt, ↓x_go, ↓c_119, ↓x_ne0, ↓x_ir, ↓c_155, ↓x_eq, ↓x_is_5, ↓x_is_6, ↓x_il_6, ↓x_ge, ↓x_il_5, ↓x_ne, ↓x_iadd, ↓x_inc_6, ↓gr_142_45, ↓gr_142_46, ↓gr_142_47, ↓x_dup_i, ↓x_dup_r, ↓pi_142_49, ↓ld_161, ↓st_161, ↓ld_163, ↓st_163, ↓ld_164, ↓st_164, ↓ld_165, ↓st_165, ↓n_162, ↓s_162_0, ↓s_162_43, ↓s_162_47, ↓s_162_56, ↓s_162_58, ↓s_162_74, ↓s_162_122, ↓s_162_126, ↓s_162_127, ↓s_162_135, ↓s_162_170, ↓s_162_173, ↓s_162_185, ↓bk_v, ↓bk_n, ↓bk_r, ↓pv_i, ↓pv_r, ↓pv_0, ↓pv_l, wz_pk, wz_ti, wz_wz, vI_wz, wz_id, wz_0, List.length_cons, List.length_nil, ↓reduceIte, true_and, and_true, Int.reduceLE, Int.reduceLT, Int.reduceEq, not_true_eq_false, not_false_eq_true, false_or, or_false, true_or, or_true, ite_not, Int.reduceNeg, Int32.reduceToInt, Nat.reduceAdd, Nat.reduceLeDiff, Nat.reduceLT, Nat.reduceEqDiff, Int.reduceAdd, Int.reduceSub, Int.reduceMul, Nat.zero_le, pk_po_ne, pk_po_eq, pk_po_ix, rI, ne_eq, g0, h7, if_true]
        apply main
        rw [← lm, if_pos h7, if_neg (by omega)]
      · have b1 : 4 * S 78 0 - 2 < 96 := by omega
        have b2 : 0 ≤ 4 * S 78 0 - 2 := by omega
        have g1 : pk (po M 142 0 0) 161 (4 * S 78 0 - 2) = lastMin S := by rw [← lm, if_neg h7]
        rw [pk_po_ne (by decide)] at g1
        simp (disch := omega) only [↓x_al_0, ↓x_c, ↓pi_142_0, ↓x_il_1, ↓x_il_2, ↓x_il_3, ↓x_il_4, ↓c_156, ↓x_eq0, ↓gi_142_49, ↓gr_142_43, ↓x_imul, ↓x_isub, ↓x_lt, ↓x_go, ↓c_119, ↓x_ne0, ↓x_ir, ↓c_155, ↓x_eq, ↓x_is_5, ↓x_is_6, ↓x_il_6, ↓x_ge, ↓x_il_5, ↓x_ne, ↓x_iadd, ↓x_inc_6, ↓gr_142_45, ↓gr_142_46, ↓gr_142_47, ↓x_dup_i, ↓x_dup_r, ↓pi_142_49, ↓ld_161, ↓st_161, ↓ld_163, ↓st_163, ↓ld_164, ↓st_164, ↓ld_165, ↓st_165, ↓n_162, ↓s_162_0, ↓s_162_43, ↓s_162_47, ↓s_162_56, ↓s_162_58, ↓s_162_74, ↓s_162_122, ↓s_162_126, ↓s_162_127, ↓s_162_135, ↓s_162_170, ↓s_162_173, ↓s_162_185, ↓bk_v, ↓bk_n, ↓bk_r, ↓pv_i, ↓pv_r, ↓pv_0, ↓pv_l, wz_pk, wz_ti, wz_wz, vI_wz, wz_id, wz_0, List.length_cons, List.length_nil, ↓reduceIte, true_and, and_true, Int.reduceLE, Int.reduceLT, Int.reduceEq, not_true_eq_false, not_false_eq_true, false_or, or_false, true_or, or_true, ite_not, Int.reduceNeg, Int32.reduceToInt, Nat.reduceAdd, Nat.reduceLeDiff, Nat.reduceLT, Nat.reduceEqDiff, Int.reduceAdd, Int.reduceSub, Int.reduceMul, Nat.zero_le, pk_po_ne, pk_po_eq, pk_po_ix, rI, ne_eq, g0, h7, if_false, b1, b2, g1, lz, hm]
        by_cases h8 : m < lastMin S
        · rw [if_pos h8]
          apply main
          rw [if_pos h8]
        · rw [if_neg h8]
          apply main
          rw [if_neg h8]
    · rw [if_neg h2]
      exact hP.no 2 (by decide) (by rw [o_take, tkR, if_pos h1, if_neg h2]) (hR0.ref (by decide)) hF0.rfM (rfM_t rfl)
  · rw [if_neg h1]
    exact hP.no 1 (by decide) (by rw [o_take, tkR, if_neg h1]) (hR0.ref (by decide)) hF0.rfM (rfM_t rfl)
end R65
