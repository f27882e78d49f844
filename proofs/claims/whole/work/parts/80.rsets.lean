section R80
variable {Q : MOut → MHp → Prop} {X : Nat × (Nat → Int32)} {s : Bool × Bool} {dh dl t : Nat} {M : Mem} {S : St} {p n x : Int}
theorem R143 (hQ : Q (.inl none) (mkh X s dh dl t (stM M))) : CL 143 [.ref 142] (mkh X s dh dl t M) Q := by
  have cz : ∀ (M : Mem) (d a : Nat) (i : Nat), a ≠ d → po (cpi M d 0 a 0 (i : Int)) d (i : Int) (pk (cpi M d 0 a 0 (i : Int)) a (i : Int)) = cpi M d 0 a 0 ((i + 1 : Nat) : Int) := fun M d a i h => by
    have := cpi_s (M := M) (d := d) (p := 0) (a := a) (q := 0) (n := i) (by omega) h
    rw [Int.zero_add] at this
    rw [this, show ((i + 1 : Nat) : Int) = (i : Int) + 1 by omega]
  have fz : ∀ (M : Mem) (d : Nat) (v : Int) (i : Nat), po (flm M d 0 (i : Int) v) d (i : Int) v = flm M d 0 ((i + 1 : Nat) : Int) v := fun M d v i => by
    have := flm_s (M := M) (d := d) (f := 0) (n := i) (x := v) (by omega)
    rw [Int.zero_add] at this
    rw [this, show ((i + 1 : Nat) : Int) = (i : Int) + 1 by omega]
  have l1 : ∀ M, EX 143 (sx 143 53) [.ref 142, vI 152] [] (mkh X s dh dl t (cpi M 149 0 145 0 152)) Q → EX 143 (sx 143 26) [.ref 142, vI 0] [] (mkh X s dh dl t M) Q := by
    intro M hh
    have key : EX 143 (sx 143 26) [.ref 142, vI ((0 : Nat) : Int)] [] (mkh X s dh dl t (cpi M 149 0 145 0 ((0 : Nat) : Int))) Q := by
      refine lp (n := 152) (fun i => EX 143 (sx 143 26) [.ref 142, vI (i : Int)] [] (mkh X s dh dl t (cpi M 149 0 145 0 (i : Int))) Q) ?_ ?_
      · have e1 : (152 : Int) ≤ ((152 : Nat) : Int) := by omega
        rw [s_143_26]
        simp (disch := omega) only [↓x_al_0, ↓gi_142_18, ↓pi_142_21, ↓gi_142_19, ↓pi_142_22, ↓gi_142_20, ↓pi_142_23, ↓x_c, ↓x_is_1, ↓x_il_1, ↓gr_142_14, ↓x_ge, ↓gr_142_10, ↓x_inc_1, ↓x_go, ↓gr_142_15, ↓gr_142_11, ↓gr_142_16, ↓gr_142_12, ↓gr_142_17, ↓gr_142_13, ↓pi_142_49, ↓pi_142_50, ↓pi_142_60, ↓gr_142_44, ↓gr_142_47, ↓gr_142_45, ↓gr_142_46, ↓x_rt, ↓ld_145, ↓st_145, ↓ln_145, ↓ld_146, ↓st_146, ↓ln_146, ↓ld_147, ↓st_147, ↓ln_147, ↓ld_148, ↓st_148, ↓ln_148, ↓ld_149, ↓st_149, ↓ln_149, ↓ld_150, ↓st_150, ↓ln_150, ↓ld_151, ↓st_151, ↓ln_151, ↓ld_152, ↓st_152, ↓ln_152, ↓ld_162, ↓st_162, ↓ln_162, ↓ld_163, ↓st_163, ↓ln_163, ↓ld_164, ↓st_164, ↓ln_164, ↓ld_165, ↓st_165, ↓ln_165, ↓n_143, ↓s_143_0, ↓s_143_82, ↓s_143_111, ↓s_143_136, ↓s_143_171, ↓s_143_192, ↓s_143_220, ↓pv_i, ↓pv_r, ↓pv_0, ↓pv_l, wz_pk, wz_ti, wz_wz, vI_wz, wz_id, wz_0, List.length_cons, List.length_nil, ↓reduceIte, true_and, and_true, Int.reduceLE, Int.reduceLT, Int.reduceEq, not_true_eq_false, not_false_eq_true, false_or, or_false, true_or, or_true, ite_not, Int.reduceNeg, Int32.reduceToInt, Nat.reduceAdd, Nat.reduceLeDiff, Nat.reduceLT, Nat.reduceEqDiff, Int.reduceAdd, Int.reduceSub, Int.reduceMul, Nat.zero_le, pk_po_ne, pk_po_eq, pk_po_ix, rI, ne_eq, e1, if_true]
        exact hh
      · intro i hi ih
        have e1 : ¬ (152 : Int) ≤ (i : Int) := by omega
        have b1 : (i : Int) < 152 := by omega
        have b2 : 0 ≤ (i : Int) := by omega
        rw [← cz _ _ _ _ (by decide)] at ih
        rw [s_143_26]
        simp (disch := omega) only [↓x_al_0, ↓gi_142_18, ↓pi_142_21, ↓gi_142_19, ↓pi_142_22, ↓gi_142_20, ↓pi_142_23, ↓x_c, ↓x_is_1, ↓x_il_1, ↓gr_142_14, ↓x_ge, ↓gr_142_10, ↓x_inc_1, ↓x_go, ↓gr_142_15, ↓gr_142_11, ↓gr_142_16, ↓gr_142_12, ↓gr_142_17, ↓gr_142_13, ↓pi_142_49, ↓pi_142_50, ↓pi_142_60, ↓gr_142_44, ↓gr_142_47, ↓gr_142_45, ↓gr_142_46, ↓x_rt, ↓ld_145, ↓st_145, ↓ln_145, ↓ld_146, ↓st_146, ↓ln_146, ↓ld_147, ↓st_147, ↓ln_147, ↓ld_148, ↓st_148, ↓ln_148, ↓ld_149, ↓st_149, ↓ln_149, ↓ld_150, ↓st_150, ↓ln_150, ↓ld_151, ↓st_151, ↓ln_151, ↓ld_152, ↓st_152, ↓ln_152, ↓ld_162, ↓st_162, ↓ln_162, ↓ld_163, ↓st_163, ↓ln_163, ↓ld_164, ↓st_164, ↓ln_164, ↓ld_165, ↓st_165, ↓ln_165, ↓n_143, ↓s_143_0, ↓s_143_82, ↓s_143_111, ↓s_143_136, ↓s_143_171, ↓s_143_192, ↓s_143_220, ↓pv_i, ↓pv_r, ↓pv_0, ↓pv_l, wz_pk, wz_ti, wz_wz, vI_wz, wz_id, wz_0, List.length_cons, List.length_nil, ↓reduceIte, true_and, and_true, Int.reduceLE, Int.reduceLT, Int.reduceEq, not_true_eq_false, not_false_eq_true, false_or, or_false, true_or, or_true, ite_not, Int.reduceNeg, Int32.reduceToInt, Nat.reduceAdd, Nat.reduceLeDiff, Nat.reduceLT, Nat.reduceEqDiff, Int.reduceAdd, Int.reduceSub, Int.reduceMul, Nat.zero_le, pk_po_ne, pk_po_eq, pk_po_ix, rI, ne_eq, e1, if_false, b1, b2]
        exact ih
    rw [show ((0 : Nat) : Int) = 0 from rfl, cpi_0] at key
    exact key
  have l2 : ∀ M, EX 143 (sx 143 82) [.ref 142, vI 108] [] (mkh X s dh dl t (cpi M 150 0 146 0 108)) Q → EX 143 (sx 143 55) [.ref 142, vI 0] [] (mkh X s dh dl t M) Q := by
    intro M hh
    have key : EX 143 (sx 143 55) [.ref 142, vI ((0 : Nat) : Int)] [] (mkh X s dh dl t (cpi M 150 0 146 0 ((0 : Nat) : Int))) Q := by
      refine lp (n := 108) (fun i => EX 143 (sx 143 55) [.ref 142, vI (i : Int)] [] (mkh X s dh dl t (cpi M 150 0 146 0 (i : Int))) Q) ?_ ?_
      · have e1 : (108 : Int) ≤ ((108 : Nat) : Int) := by omega
        rw [s_143_55]
        simp (disch := omega) only [↓x_al_0, ↓gi_142_18, ↓pi_142_21, ↓gi_142_19, ↓pi_142_22, ↓gi_142_20, ↓pi_142_23, ↓x_c, ↓x_is_1, ↓x_il_1, ↓gr_142_14, ↓x_ge, ↓gr_142_10, ↓x_inc_1, ↓x_go, ↓gr_142_15, ↓gr_142_11, ↓gr_142_16, ↓gr_142_12, ↓gr_142_17, ↓gr_142_13, ↓pi_142_49, ↓pi_142_50, ↓pi_142_60, ↓gr_142_44, ↓gr_142_47, ↓gr_142_45, ↓gr_142_46, ↓x_rt, ↓ld_145, ↓st_145, ↓ln_145, ↓ld_146, ↓st_146, ↓ln_146, ↓ld_147, ↓st_147, ↓ln_147, ↓ld_148, ↓st_148, ↓ln_148, ↓ld_149, ↓st_149, ↓ln_149, ↓ld_150, ↓st_150, ↓ln_150, ↓ld_151, ↓st_151, ↓ln_151, ↓ld_152, ↓st_152, ↓ln_152, ↓ld_162, ↓st_162, ↓ln_162, ↓ld_163, ↓st_163, ↓ln_163, ↓ld_164, ↓st_164, ↓ln_164, ↓ld_165, ↓st_165, ↓ln_165, ↓n_143, ↓s_143_0, ↓s_143_53, ↓s_143_111, ↓s_143_136, ↓s_143_171, ↓s_143_192, ↓s_143_220, ↓pv_i, ↓pv_r, ↓pv_0, ↓pv_l, wz_pk, wz_ti, wz_wz, vI_wz, wz_id, wz_0, List.length_cons, List.length_nil, ↓reduceIte, true_and, and_true, Int.reduceLE, Int.reduceLT, Int.reduceEq, not_true_eq_false, not_false_eq_true, false_or, or_false, true_or, or_true, ite_not, Int.reduceNeg, Int32.reduceToInt, Nat.reduceAdd, Nat.reduceLeDiff, Nat.reduceLT, Nat.reduceEqDiff, Int.reduceAdd, Int.reduceSub, Int.reduceMul, Nat.zero_le, pk_po_ne, pk_po_eq, pk_po_ix, rI, ne_eq, e1, if_true]
        exact hh
      · intro i hi ih
        have e1 : ¬ (108 : Int) ≤ (i : Int) := by omega
        have b1 : (i : Int) < 108 := by omega
        have b2 : 0 ≤ (i : Int) := by omega
        rw [← cz _ _ _ _ (by decide)] at ih
        rw [s_143_55]
        simp (disch := omega) only [↓x_al_0, ↓gi_142_18, ↓pi_142_21, ↓gi_142_19, ↓pi_142_22, ↓gi_142_20, ↓pi_142_23, ↓x_c, ↓x_is_1, ↓x_il_1, ↓gr_142_14, ↓x_ge, ↓gr_142_10, ↓x_inc_1, ↓x_go, ↓gr_142_15, ↓gr_142_11, ↓gr_142_16, ↓gr_142_12, ↓gr_142_17, ↓gr_142_13, ↓pi_142_49, ↓pi_142_50, ↓pi_142_60, ↓gr_142_44, ↓gr_142_47, ↓gr_142_45, ↓gr_142_46, ↓x_rt, ↓ld_145, ↓st_145, ↓ln_145, ↓ld_146, ↓st_146, ↓ln_146, ↓ld_147, ↓st_147, ↓ln_147, ↓ld_148, ↓st_148, ↓ln_148, ↓ld_149, ↓st_149, ↓ln_149, ↓ld_150, ↓st_150, ↓ln_150, ↓ld_151, ↓st_151, ↓ln_151, ↓ld_152, ↓st_152, ↓ln_152, ↓ld_162, ↓st_162, ↓ln_162, ↓ld_163, ↓st_163, ↓ln_163, ↓ld_164, ↓st_164, ↓ln_164, ↓ld_165, ↓st_165, ↓ln_165, ↓n_143, ↓s_143_0, ↓s_143_53, ↓s_143_111, ↓s_143_136, ↓s_143_171, ↓s_143_192, ↓s_143_220, ↓pv_i, ↓pv_r, ↓pv_0, ↓pv_l, wz_pk, wz_ti, wz_wz, vI_wz, wz_id, wz_0, List.length_cons, List.length_nil, ↓reduceIte, true_and, and_true, Int.reduceLE, Int.reduceLT, Int.reduceEq, not_true_eq_false, not_false_eq_true, false_or, or_false, true_or, or_true, ite_not, Int.reduceNeg, Int32.reduceToInt, Nat.reduceAdd, Nat.reduceLeDiff, Nat.reduceLT, Nat.reduceEqDiff, Int.reduceAdd, Int.reduceSub, Int.reduceMul, Nat.zero_le, pk_po_ne, pk_po_eq, pk_po_ix, rI, ne_eq, e1, if_false, b1, b2]
        exact ih
    rw [show ((0 : Nat) : Int) = 0 from rfl, cpi_0] at key
    exact key
  have l3 : ∀ M, EX 143 (sx 143 111) [.ref 142, vI 18] [] (mkh X s dh dl t (cpi M 151 0 147 0 18)) Q → EX 143 (sx 143 84) [.ref 142, vI 0] [] (mkh X s dh dl t M) Q := by
    intro M hh
    have key : EX 143 (sx 143 84) [.ref 142, vI ((0 : Nat) : Int)] [] (mkh X s dh dl t (cpi M 151 0 147 0 ((0 : Nat) : Int))) Q := by
      refine lp (n := 18) (fun i => EX 143 (sx 143 84) [.ref 142, vI (i : Int)] [] (mkh X s dh dl t (cpi M 151 0 147 0 (i : Int))) Q) ?_ ?_
      · have e1 : (18 : Int) ≤ ((18 : Nat) : Int) := by omega
        rw [s_143_84]
        simp (disch := omega) only [↓x_al_0, ↓gi_142_18, ↓pi_142_21, ↓gi_142_19, ↓pi_142_22, ↓gi_142_20, ↓pi_142_23, ↓x_c, ↓x_is_1, ↓x_il_1, ↓gr_142_14, ↓x_ge, ↓gr_142_10, ↓x_inc_1, ↓x_go, ↓gr_142_15, ↓gr_142_11, ↓gr_142_16, ↓gr_142_12, ↓gr_142_17, ↓gr_142_13, ↓pi_142_49, ↓pi_142_50, ↓pi_142_60, ↓gr_142_44, ↓gr_142_47, ↓gr_142_45, ↓gr_142_46, ↓x_rt, ↓ld_145, ↓st_145, ↓ln_145, ↓ld_146, ↓st_146, ↓ln_146, ↓ld_147, ↓st_147, ↓ln_147, ↓ld_148, ↓st_148, ↓ln_148, ↓ld_149, ↓st_149, ↓ln_149, ↓ld_150, ↓st_150, ↓ln_150, ↓ld_151, ↓st_151, ↓ln_151, ↓ld_152, ↓st_152, ↓ln_152, ↓ld_162, ↓st_162, ↓ln_162, ↓ld_163, ↓st_163, ↓ln_163, ↓ld_164, ↓st_164, ↓ln_164, ↓ld_165, ↓st_165, ↓ln_165, ↓n_143, ↓s_143_0, ↓s_143_53, ↓s_143_82, ↓s_143_136, ↓s_143_171, ↓s_143_192, ↓s_143_220, ↓pv_i, ↓pv_r, ↓pv_0, ↓pv_l, wz_pk, wz_ti, wz_wz, vI_wz, wz_id, wz_0, List.length_cons, List.length_nil, ↓reduceIte, true_and, and_true, Int.reduceLE, Int.reduceLT, Int.reduceEq, not_true_eq_false, not_false_eq_true, false_or, or_false, true_or, or_true, ite_not, Int.reduceNeg, Int32.reduceToInt, Nat.reduceAdd, Nat.reduceLeDiff, Nat.reduceLT, Nat.reduceEqDiff, Int.reduceAdd, Int.reduceSub, Int.reduceMul, Nat.zero_le, pk_po_ne, pk_po_eq, pk_po_ix, rI, ne_eq, e1, if_true]
        exact hh
      · intro i hi ih
        have e1 : ¬ (18 : Int) ≤ (i : Int) := by omega
        have b1 : (i : Int) < 18 := by omega
        have b2 : 0 ≤ (i : Int) := by omega
        rw [← cz _ _ _ _ (by decide)] at ih
        rw [s_143_84]
        simp (disch := omega) only [↓x_al_0, ↓gi_142_18, ↓pi_142_21, ↓gi_142_19, ↓pi_142_22, ↓gi_142_20, ↓pi_142_23, ↓x_c, ↓x_is_1, ↓x_il_1, ↓gr_142_14, ↓x_ge, ↓gr_142_10, ↓x_inc_1, ↓x_go, ↓gr_142_15, ↓gr_142_11, ↓gr_142_16, ↓gr_142_12, ↓gr_142_17, ↓gr_142_13, ↓pi_142_49, ↓pi_142_50, ↓pi_142_60, ↓gr_142_44, ↓gr_142_47, ↓gr_142_45, ↓gr_142_46, ↓x_rt, ↓ld_145, ↓st_145, ↓ln_145, ↓ld_146, ↓st_146, ↓ln_146, ↓ld_147, ↓st_147, ↓ln_147, ↓ld_148, ↓st_148, ↓ln_148, ↓ld_149, ↓st_149, ↓ln_149, ↓ld_150, ↓st_150, ↓ln_150, ↓ld_151, ↓st_151, ↓ln_151, ↓ld_152, ↓st_152, ↓ln_152, ↓ld_162, ↓st_162, ↓ln_162, ↓ld_163, ↓st_163, ↓ln_163, ↓ld_164, ↓st_164, ↓ln_164, ↓ld_165, ↓st_165, ↓ln_165, ↓n_143, ↓s_143_0, ↓s_143_53, ↓s_143_82, ↓s_143_136, ↓s_143_171, ↓s_143_192, ↓s_143_220, ↓pv_i, ↓pv_r, ↓pv_0, ↓pv_l, wz_pk, wz_ti, wz_wz, vI_wz, wz_id, wz_0, List.length_cons, List.length_nil, ↓reduceIte, true_and, and_true, Int.reduceLE, Int.reduceLT, Int.reduceEq, not_true_eq_false, not_false_eq_true, false_or, or_false, true_or, or_true, ite_not, Int.reduceNeg, Int32.reduceToInt, Nat.reduceAdd, Nat.reduceLeDiff, Nat.reduceLT, Nat.reduceEqDiff, Int.reduceAdd, Int.reduceSub, Int.reduceMul, Nat.zero_le, pk_po_ne, pk_po_eq, pk_po_ix, rI, ne_eq, e1, if_false, b1, b2]
        exact ih
    rw [show ((0 : Nat) : Int) = 0 from rfl, cpi_0] at key
    exact key
  have l4 : ∀ M, EX 143 (sx 143 136) [.ref 142, vI 4] [] (mkh X s dh dl t (cpi M 152 0 148 0 4)) Q → EX 143 (sx 143 113) [.ref 142, vI 0] [] (mkh X s dh dl t M) Q := by
    intro M hh
    have key : EX 143 (sx 143 113) [.ref 142, vI ((0 : Nat) : Int)] [] (mkh X s dh dl t (cpi M 152 0 148 0 ((0 : Nat) : Int))) Q := by
      refine lp (n := 4) (fun i => EX 143 (sx 143 113) [.ref 142, vI (i : Int)] [] (mkh X s dh dl t (cpi M 152 0 148 0 (i : Int))) Q) ?_ ?_
      · have e1 : (4 : Int) ≤ ((4 : Nat) : Int) := by omega
        rw [s_143_113]
        simp (disch := omega) only [↓x_al_0, ↓gi_142_18, ↓pi_142_21, ↓gi_142_19, ↓pi_142_22, ↓gi_142_20, ↓pi_142_23, ↓x_c, ↓x_is_1, ↓x_il_1, ↓gr_142_14, ↓x_ge, ↓gr_142_10, ↓x_inc_1, ↓x_go, ↓gr_142_15, ↓gr_142_11, ↓gr_142_16, ↓gr_142_12, ↓gr_142_17, ↓gr_142_13, ↓pi_142_49, ↓pi_142_50, ↓pi_142_60, ↓gr_142_44, ↓gr_142_47, ↓gr_142_45, ↓gr_142_46, ↓x_rt, ↓ld_145, ↓st_145, ↓ln_145, ↓ld_146, ↓st_146, ↓ln_146, ↓ld_147, ↓st_147, ↓ln_147, ↓ld_148, ↓st_148, ↓ln_148, ↓ld_149, ↓st_149, ↓ln_149, ↓ld_150, ↓st_150, ↓ln_150, ↓ld_151, ↓st_151, ↓ln_151, ↓ld_152, ↓st_152, ↓ln_152, ↓ld_162, ↓st_162, ↓ln_162, ↓ld_163, ↓st_163, ↓ln_163, ↓ld_164, ↓st_164, ↓ln_164, ↓ld_165, ↓st_165, ↓ln_165, ↓n_143, ↓s_143_0, ↓s_143_53, ↓s_143_82, ↓s_143_111, ↓s_143_171, ↓s_143_192, ↓s_143_220, ↓pv_i, ↓pv_r, ↓pv_0, ↓pv_l, wz_pk, wz_ti, wz_wz, vI_wz, wz_id, wz_0, List.length_cons, List.length_nil, ↓reduceIte, true_and, and_true, Int.reduceLE, Int.reduceLT, Int.reduceEq, not_true_eq_false, not_false_eq_true, false_or, or_false, true_or, or_true, ite_not, Int.reduceNeg, Int32.reduceToInt, Nat.reduceAdd, Nat.reduceLeDiff, Nat.reduceLT, Nat.reduceEqDiff, Int.reduceAdd, Int.reduceSub, Int.reduceMul, Nat.zero_le, pk_po_ne, pk_po_eq, pk_po_ix, rI, ne_eq, e1, if_true]
        exact hh
      · intro i hi ih
        have e1 : ¬ (4 : Int) ≤ (i : Int) := by omega
        have b1 : (i : Int) < 4 := by omega
        have b2 : 0 ≤ (i : Int) := by omega
        rw [← cz _ _ _ _ (by decide)] at ih
        rw [s_143_113]
        simp (disch := omega) only [↓x_al_0, ↓gi_142_18, ↓pi_142_21, ↓gi_142_19, ↓pi_142_22, ↓gi_142_20, ↓pi_142_23, ↓x_c, ↓x_is_1, ↓x_il_1, ↓gr_142_14, ↓x_ge, ↓gr_142_10, ↓x_inc_1, ↓x_go, ↓gr_142_15, ↓gr_142_11, ↓gr_142_16, ↓gr_142_12, ↓gr_142_17, ↓gr_142_13, ↓pi_142_49, ↓pi_142_50, ↓pi_142_60, ↓gr_142_44, ↓gr_142_47, ↓gr_142_45, ↓gr_142_46, ↓x_rt, ↓ld_145, ↓st_145, ↓ln_145, ↓ld_146, ↓st_146, ↓ln_146, ↓ld_147, ↓st_147, ↓ln_147, ↓ld_148, ↓st_148, ↓ln_148, ↓ld_149, ↓st_149, ↓ln_149, ↓ld_150, ↓st_150, ↓ln_150, ↓ld_151, ↓st_151, ↓ln_151, ↓ld_152, ↓st_152, ↓ln_152, ↓ld_162, ↓st_162, ↓ln_162, ↓ld_163, ↓st_163, ↓ln_163, ↓ld_164, ↓st_164, ↓ln_164, ↓ld_165, ↓st_165, ↓ln_165, ↓n_143, ↓s_143_0, ↓s_143_53, ↓s_143_82, ↓s_143_111, ↓s_143_171, ↓s_143_192, ↓s_143_220, ↓pv_i, ↓pv_r, ↓pv_0, ↓pv_l, wz_pk, wz_ti, wz_wz, vI_wz, wz_id, wz_0, List.length_cons, List.length_nil, ↓reduceIte, true_and, and_true, Int.reduceLE, Int.reduceLT, Int.reduceEq, not_true_eq_false, not_false_eq_true, false_or, or_false, true_or, or_true, ite_not, Int.reduceNeg, Int32.reduceToInt, Nat.reduceAdd, Nat.reduceLeDiff, Nat.reduceLT, Nat.reduceEqDiff, Int.reduceAdd, Int.reduceSub, Int.reduceMul, Nat.zero_le, pk_po_ne, pk_po_eq, pk_po_ix, rI, ne_eq, e1, if_false, b1, b2]
        exact ih
    rw [show ((0 : Nat) : Int) = 0 from rfl, cpi_0] at key
    exact key
  have l5 : ∀ M, EX 143 (sx 143 171) [.ref 142, vI 4] [] (mkh X s dh dl t (flm M 162 0 4 (-1))) Q → EX 143 (sx 143 153) [.ref 142, vI 0] [] (mkh X s dh dl t M) Q := by
    intro M hh
    have key : EX 143 (sx 143 153) [.ref 142, vI ((0 : Nat) : Int)] [] (mkh X s dh dl t (flm M 162 0 ((0 : Nat) : Int) (-1))) Q := by
      refine lp (n := 4) (fun i => EX 143 (sx 143 153) [.ref 142, vI (i : Int)] [] (mkh X s dh dl t (flm M 162 0 (i : Int) (-1))) Q) ?_ ?_
      · have e1 : (4 : Int) ≤ ((4 : Nat) : Int) := by omega
        rw [s_143_153]
        simp (disch := omega) only [↓x_al_0, ↓gi_142_18, ↓pi_142_21, ↓gi_142_19, ↓pi_142_22, ↓gi_142_20, ↓pi_142_23, ↓x_c, ↓x_is_1, ↓x_il_1, ↓gr_142_14, ↓x_ge, ↓gr_142_10, ↓x_inc_1, ↓x_go, ↓gr_142_15, ↓gr_142_11, ↓gr_142_16, ↓gr_142_12, ↓gr_142_17, ↓gr_142_13, ↓pi_142_49, ↓pi_142_50, ↓pi_142_60, ↓gr_142_44, ↓gr_142_47, ↓gr_142_45, ↓gr_142_46, ↓x_rt, ↓ld_145, ↓st_145, ↓ln_145, ↓ld_146, ↓st_146, ↓ln_146, ↓ld_147, ↓st_147, ↓ln_147, ↓ld_148, ↓st_148, ↓ln_148, ↓ld_149, ↓st_149, ↓ln_149, ↓ld_150, ↓st_150, ↓ln_150, ↓ld_151, ↓st_151, ↓ln_151, ↓ld_152, ↓st_152, ↓ln_152, ↓ld_162, ↓st_162, ↓ln_162, ↓ld_163, ↓st_163, ↓ln_163, ↓ld_164, ↓st_164, ↓ln_164, ↓ld_165, ↓st_165, ↓ln_165, ↓n_143, ↓s_143_0, ↓s_143_53, ↓s_143_82, ↓s_143_111, ↓s_143_136, ↓s_143_192, ↓s_143_220, ↓pv_i, ↓pv_r, ↓pv_0, ↓pv_l, wz_pk, wz_ti, wz_wz, vI_wz, wz_id, wz_0, List.length_cons, List.length_nil, ↓reduceIte, true_and, and_true, Int.reduceLE, Int.reduceLT, Int.reduceEq, not_true_eq_false, not_false_eq_true, false_or, or_false, true_or, or_true, ite_not, Int.reduceNeg, Int32.reduceToInt, Nat.reduceAdd, Nat.reduceLeDiff, Nat.reduceLT, Nat.reduceEqDiff, Int.reduceAdd, Int.reduceSub, Int.reduceMul, Nat.zero_le, pk_po_ne, pk_po_eq, pk_po_ix, rI, ne_eq, e1, if_true]
        exact hh
      · intro i hi ih
        have e1 : ¬ (4 : Int) ≤ (i : Int) := by omega
        have b1 : (i : Int) < 4 := by omega
        have b2 : 0 ≤ (i : Int) := by omega
        rw [← fz] at ih
        rw [s_143_153]
        simp (disch := omega) only [↓x_al_0, ↓gi_142_18, ↓pi_142_21, ↓gi_142_19, ↓pi_142_22, ↓gi_142_20, ↓pi_142_23, ↓x_c, ↓x_is_1, ↓x_il_1, ↓gr_142_14, ↓x_ge, ↓gr_142_10, ↓x_inc_1, ↓x_go, ↓gr_142_15, ↓gr_142_11, ↓gr_142_16, ↓gr_142_12, ↓gr_142_17, ↓gr_142_13, ↓pi_142_49, ↓pi_142_50, ↓pi_142_60, ↓gr_142_44, ↓gr_142_47, ↓gr_142_45, ↓gr_142_46, ↓x_rt, ↓ld_145, ↓st_145, ↓ln_145, ↓ld_146, ↓st_146, ↓ln_146, ↓ld_147, ↓st_147, ↓ln_147, ↓ld_148, ↓st_148, ↓ln_148, ↓ld_149, ↓st_149, ↓ln_149, ↓ld_150, ↓st_150, ↓ln_150, ↓ld_151, ↓st_151, ↓ln_151, ↓ld_152, ↓st_152, ↓ln_152, ↓ld_162, ↓st_162, ↓ln_162, ↓ld_163, ↓st_163, ↓ln_163, ↓ld_164, ↓st_164, ↓ln_164, ↓ld_165, ↓st_165, ↓ln_165, ↓n_143, ↓s_143_0, ↓s_143_53, ↓s_143_82, ↓s_143_111, ↓s_143_136, ↓s_143_192, ↓s_143_220, ↓pv_i, ↓pv_r, ↓pv_0, ↓pv_l, wz_pk, wz_ti, wz_wz, vI_wz, wz_id, wz_0, List.length_cons, List.length_nil, ↓reduceIte, true_and, and_true, Int.reduceLE, Int.reduceLT, Int.reduceEq, not_true_eq_false, not_false_eq_true, false_or, or_false, true_or, or_true, ite_not, Int.reduceNeg, Int32.reduceToInt, Nat.reduceAdd, Nat.reduceLeDiff, Nat.reduceLT, Nat.reduceEqDiff, Int.reduceAdd, Int.reduceSub, Int.reduceMul, Nat.zero_le, pk_po_ne, pk_po_eq, pk_po_ix, rI, ne_eq, e1, if_false, b1, b2]
        exact ih
    rw [show ((0 : Nat) : Int) = 0 from rfl, flm_0] at key
    exact key
  have l6 : ∀ M, EX 143 (sx 143 192) [.ref 142, vI 6] [] (mkh X s dh dl t (flm M 165 0 6 0)) Q → EX 143 (sx 143 173) [.ref 142, vI 0] [] (mkh X s dh dl t M) Q := by
    intro M hh
    have key : EX 143 (sx 143 173) [.ref 142, vI ((0 : Nat) : Int)] [] (mkh X s dh dl t (flm M 165 0 ((0 : Nat) : Int) 0)) Q := by
      refine lp (n := 6) (fun i => EX 143 (sx 143 173) [.ref 142, vI (i : Int)] [] (mkh X s dh dl t (flm M 165 0 (i : Int) 0)) Q) ?_ ?_
      · have e1 : (6 : Int) ≤ ((6 : Nat) : Int) := by omega
        rw [s_143_173]
        simp (disch := omega) only [↓x_al_0, ↓gi_142_18, ↓pi_142_21, ↓gi_142_19, ↓pi_142_22, ↓gi_142_20, ↓pi_142_23, ↓x_c, ↓x_is_1, ↓x_il_1, ↓gr_142_14, ↓x_ge, ↓gr_142_10, ↓x_inc_1, ↓x_go, ↓gr_142_15, ↓gr_142_11, ↓gr_142_16, ↓gr_142_12, ↓gr_142_17, ↓gr_142_13, ↓pi_142_49, ↓pi_142_50, ↓pi_142_60, ↓gr_142_44, ↓gr_142_47, ↓gr_142_45, ↓gr_142_46, ↓x_rt, ↓ld_145, ↓st_145, ↓ln_145, ↓ld_146, ↓st_146, ↓ln_146, ↓ld_147, ↓st_147, ↓ln_147, ↓ld_148, ↓st_148, ↓ln_148, ↓ld_149, ↓st_149, ↓ln_149, ↓ld_150, ↓st_150, ↓ln_150, ↓ld_151, ↓st_151, ↓ln_151, ↓ld_152, ↓st_152, ↓ln_152, ↓ld_162, ↓st_162, ↓ln_162, ↓ld_163, ↓st_163, ↓ln_163, ↓ld_164, ↓st_164, ↓ln_164, ↓ld_165, ↓st_165, ↓ln_165, ↓n_143, ↓s_143_0, ↓s_143_53, ↓s_143_82, ↓s_143_111, ↓s_143_136, ↓s_143_171, ↓s_143_220, ↓pv_i, ↓pv_r, ↓pv_0, ↓pv_l, wz_pk, wz_ti, wz_wz, vI_wz, wz_id, wz_0, List.length_cons, List.length_nil, ↓reduceIte, true_and, and_true, Int.reduceLE, Int.reduceLT, Int.reduceEq, not_true_eq_false, not_false_eq_true, false_or, or_false, true_or, or_true, ite_not, Int.reduceNeg, Int32.reduceToInt, Nat.reduceAdd, Nat.reduceLeDiff, Nat.reduceLT, Nat.reduceEqDiff, Int.reduceAdd, Int.reduceSub, Int.reduceMul, Nat.zero_le, pk_po_ne, pk_po_eq, pk_po_ix, rI, ne_eq, e1, if_true]
        exact hh
      · intro i hi ih
        have e1 : ¬ (6 : Int) ≤ (i : Int) := by omega
        have b1 : (i : Int) < 6 := by omega
        have b2 : 0 ≤ (i : Int) := by omega
        rw [← fz] at ih
        rw [s_143_173]
        simp (disch := omega) only [↓x_al_0, ↓gi_142_18, ↓pi_142_21, ↓gi_142_19, ↓pi_142_22, ↓gi_142_20, ↓pi_142_23, ↓x_c, ↓x_is_1, ↓x_il_1, ↓gr_142_14, ↓x_ge, ↓gr_142_10, ↓x_inc_1, ↓x_go, ↓gr_142_15, ↓gr_142_11, ↓gr_142_16, ↓gr_142_12, ↓gr_142_17, ↓gr_142_13, ↓pi_142_49, ↓pi_142_50, ↓pi_142_60, ↓gr_142_44, ↓gr_142_47, ↓gr_142_45, ↓gr_142_46, ↓x_rt, ↓ld_145, ↓st_145, ↓ln_145, ↓ld_146, ↓st_146, ↓ln_146, ↓ld_147, ↓st_147, ↓ln_147, ↓ld_148, ↓st_148, ↓ln_148, ↓ld_149, ↓st_149, ↓ln_149, ↓ld_150, ↓st_150, ↓ln_150, ↓ld_151, ↓st_151, ↓ln_151, ↓ld_152, ↓st_152, ↓ln_152, ↓ld_162, ↓st_162, ↓ln_162, ↓ld_163, ↓st_163, ↓ln_163, ↓ld_164, ↓st_164, ↓ln_164, ↓ld_165, ↓st_165, ↓ln_165, ↓n_143, ↓s_143_0, ↓s_143_53, ↓s_143_82, ↓s_143_111, ↓s_143_136, ↓s_143_171, ↓s_143_220, ↓pv_i, ↓pv_r, ↓pv_0, ↓pv_l, wz_pk, wz_ti, wz_wz, vI_wz, wz_id, wz_0, List.length_cons, List.length_nil, ↓reduceIte, true_and, and_true, Int.reduceLE, Int.reduceLT, Int.reduceEq, not_true_eq_false, not_false_eq_true, false_or, or_false, true_or, or_true, ite_not, Int.reduceNeg, Int32.reduceToInt, Nat.reduceAdd, Nat.reduceLeDiff, Nat.reduceLT, Nat.reduceEqDiff, Int.reduceAdd, Int.reduceSub, Int.reduceMul, Nat.zero_le, pk_po_ne, pk_po_eq, pk_po_ix, rI, ne_eq, e1, if_false, b1, b2]
        exact ih
    rw [show ((0 : Nat) : Int) = 0 from rfl, flm_0] at key
    exact key
  have l7 : ∀ M, Q (.inl none) (mkh X s dh dl t (flm (flm M 163 0 12 (-1)) 164 0 12 0)) → EX 143 (sx 143 194) [.ref 142, vI 0] [] (mkh X s dh dl t M) Q := by
    intro M hh
    have key : EX 143 (sx 143 194) [.ref 142, vI ((0 : Nat) : Int)] [] (mkh X s dh dl t (flm (flm M 163 0 ((0 : Nat) : Int) (-1)) 164 0 ((0 : Nat) : Int) 0)) Q := by
      refine lp (n := 12) (fun i => EX 143 (sx 143 194) [.ref 142, vI (i : Int)] [] (mkh X s dh dl t (flm (flm M 163 0 (i : Int) (-1)) 164 0 (i : Int) 0)) Q) ?_ ?_
      · have e1 : (12 : Int) ≤ ((12 : Nat) : Int) := by omega
        rw [s_143_194]
        simp (disch := omega) only [↓x_al_0, ↓gi_142_18, ↓pi_142_21, ↓gi_142_19, ↓pi_142_22, ↓gi_142_20, ↓pi_142_23, ↓x_c, ↓x_is_1, ↓x_il_1, ↓gr_142_14, ↓x_ge, ↓gr_142_10, ↓x_inc_1, ↓x_go, ↓gr_142_15, ↓gr_142_11, ↓gr_142_16, ↓gr_142_12, ↓gr_142_17, ↓gr_142_13, ↓pi_142_49, ↓pi_142_50, ↓pi_142_60, ↓gr_142_44, ↓gr_142_47, ↓gr_142_45, ↓gr_142_46, ↓x_rt, ↓ld_145, ↓st_145, ↓ln_145, ↓ld_146, ↓st_146, ↓ln_146, ↓ld_147, ↓st_147, ↓ln_147, ↓ld_148, ↓st_148, ↓ln_148, ↓ld_149, ↓st_149, ↓ln_149, ↓ld_150, ↓st_150, ↓ln_150, ↓ld_151, ↓st_151, ↓ln_151, ↓ld_152, ↓st_152, ↓ln_152, ↓ld_162, ↓st_162, ↓ln_162, ↓ld_163, ↓st_163, ↓ln_163, ↓ld_164, ↓st_164, ↓ln_164, ↓ld_165, ↓st_165, ↓ln_165, ↓n_143, ↓s_143_0, ↓s_143_53, ↓s_143_82, ↓s_143_111, ↓s_143_136, ↓s_143_171, ↓s_143_192, ↓s_143_220, ↓pv_i, ↓pv_r, ↓pv_0, ↓pv_l, wz_pk, wz_ti, wz_wz, vI_wz, wz_id, wz_0, List.length_cons, List.length_nil, ↓reduceIte, true_and, and_true, Int.reduceLE, Int.reduceLT, Int.reduceEq, not_true_eq_false, not_false_eq_true, false_or, or_false, true_or, or_true, ite_not, Int.reduceNeg, Int32.reduceToInt, Nat.reduceAdd, Nat.reduceLeDiff, Nat.reduceLT, Nat.reduceEqDiff, Int.reduceAdd, Int.reduceSub, Int.reduceMul, Nat.zero_le, pk_po_ne, pk_po_eq, pk_po_ix, rI, ne_eq, e1, if_true]
        exact hh
      · intro i hi ih
        have e1 : ¬ (12 : Int) ≤ (i : Int) := by omega
        have b1 : (i : Int) < 12 := by omega
        have b2 : 0 ≤ (i : Int) := by omega
        have sw : po (po (flm (flm M 163 0 (i : Int) (-1)) 164 0 (i : Int) 0) 163 (i : Int) (-1)) 164 (i : Int) 0 = flm (flm M 163 0 ((i + 1 : Nat) : Int) (-1)) 164 0 ((i + 1 : Nat) : Int) 0 := by
          rw [← fz, ← fz]
          funext e j
          simp only [po, flm]
          grind
        rw [← sw] at ih
        rw [s_143_194]
        simp (disch := omega) only [↓x_al_0, ↓gi_142_18, ↓pi_142_21, ↓gi_142_19, ↓pi_142_22, ↓gi_142_20, ↓pi_142_23, ↓x_c, ↓x_is_1, ↓x_il_1, ↓gr_142_14, ↓x_ge, ↓gr_142_10, ↓x_inc_1, ↓x_go, ↓gr_142_15, ↓gr_142_11, ↓gr_142_16, ↓gr_142_12, ↓gr_142_17, ↓gr_142_13, ↓pi_142_49, ↓pi_142_50, ↓pi_142_60, ↓gr_142_44, ↓gr_142_47, ↓gr_142_45, ↓gr_142_46, ↓x_rt, ↓ld_145, ↓st_145, ↓ln_145, ↓ld_146, ↓st_146, ↓ln_146, ↓ld_147, ↓st_147, ↓ln_147, ↓ld_148, ↓st_148, ↓ln_148, ↓ld_149, ↓st_149, ↓ln_149, ↓ld_150, ↓st_150, ↓ln_150, ↓ld_151, ↓st_151, ↓ln_151, ↓ld_152, ↓st_152, ↓ln_152, ↓ld_162, ↓st_162, ↓ln_162, ↓ld_163, ↓st_163, ↓ln_163, ↓ld_164, ↓st_164, ↓ln_164, ↓ld_165, ↓st_165, ↓ln_165, ↓n_143, ↓s_143_0, ↓s_143_53, ↓s_143_82, ↓s_143_111, ↓s_143_136, ↓s_143_171, ↓s_143_192, ↓s_143_220, ↓pv_i, ↓pv_r, ↓pv_0, ↓pv_l, wz_pk, wz_ti, wz_wz, vI_wz, wz_id, wz_0, List.length_cons, List.length_nil, ↓reduceIte, true_and, and_true, Int.reduceLE, Int.reduceLT, Int.reduceEq, not_true_eq_false, not_false_eq_true, false_or, or_false, true_or, or_true, ite_not, Int.reduceNeg, Int32.reduceToInt, Nat.reduceAdd, Nat.reduceLeDiff, Nat.reduceLT, Nat.reduceEqDiff, Int.reduceAdd, Int.reduceSub, Int.reduceMul, Nat.zero_le, pk_po_ne, pk_po_eq, pk_po_ix, rI, ne_eq, e1, if_false, b1, b2]
        exact ih
    rw [show ((0 : Nat) : Int) = 0 from rfl, flm_0, flm_0] at key
    exact key
  simp only [↓x_al_0, ↓gi_142_18, ↓pi_142_21, ↓gi_142_19, ↓pi_142_22, ↓gi_142_20, ↓pi_142_23, ↓x_c, ↓x_is_1, ↓x_il_1, ↓gr_142_14, ↓x_ge, ↓gr_142_10, ↓x_inc_1, ↓x_go, ↓gr_142_15, ↓gr_142_11, ↓gr_142_16, ↓gr_142_12, ↓gr_142_17, ↓gr_142_13, ↓pi_142_49, ↓pi_142_50, ↓pi_142_60, ↓gr_142_44, ↓gr_142_47, ↓gr_142_45, ↓gr_142_46, ↓x_rt, ↓ld_145, ↓st_145, ↓ln_145, ↓ld_146, ↓st_146, ↓ln_146, ↓ld_147, ↓st_147, ↓ln_147, ↓ld_148, ↓st_148, ↓ln_148, ↓ld_149, ↓st_149, ↓ln_149, ↓ld_150, ↓st_150, ↓ln_150, ↓ld_151, ↓st_151, ↓ln_151, ↓ld_152, ↓st_152, ↓ln_152, ↓ld_162, ↓st_162, ↓ln_162, ↓ld_163, ↓st_163, ↓ln_163, ↓ld_164, ↓st_164, ↓ln_164, ↓ld_165, ↓st_165, ↓ln_165, ↓n_143, ↓s_143_0, ↓s_143_53, ↓s_143_82, ↓s_143_111, ↓s_143_136, ↓s_143_171, ↓s_143_192, ↓s_143_220, ↓pv_i, ↓pv_r, ↓pv_0, ↓pv_l, wz_pk, wz_ti, wz_wz, vI_wz, wz_id, wz_0, List.length_cons, List.length_nil, ↓reduceIte, true_and, and_true, Int.reduceLE, Int.reduceLT, Int.reduceEq, not_true_eq_false, not_false_eq_true, false_or, or_false, true_or, or_true, ite_not, Int.reduceNeg, Int32.reduceToInt, Nat.reduceAdd, Nat.reduceLeDiff, Nat.reduceLT, Nat.reduceEqDiff, Int.reduceAdd, Int.reduceSub, Int.reduceMul, Nat.zero_le, pk_po_ne, pk_po_eq, pk_po_ix, rI, ne_eq]
  apply l1
  rw [s_143_53]
  simp only [↓x_al_0, ↓gi_142_18, ↓pi_142_21, ↓gi_142_19, ↓pi_142_22, ↓gi_142_20, ↓pi_142_23, ↓x_c, ↓x_is_1, ↓x_il_1, ↓gr_142_14, ↓x_ge, ↓gr_142_10, ↓x_inc_1, ↓x_go, ↓gr_142_15, ↓gr_142_11, ↓gr_142_16, ↓gr_142_12, ↓gr_142_17, ↓gr_142_13, ↓pi_142_49, ↓pi_142_50, ↓pi_142_60, ↓gr_142_44, ↓gr_142_47, ↓gr_142_45, ↓gr_142_46, ↓x_rt, ↓ld_145, ↓st_145, ↓ln_145, ↓ld_146, ↓st_146, ↓ln_146, ↓ld_147, ↓st_147, ↓ln_147, ↓ld_148, ↓st_148, ↓ln_148, ↓ld_149, ↓st_149, ↓ln_149, ↓ld_150, ↓st_150, ↓ln_150, ↓ld_151, ↓st_151, ↓ln_151, ↓ld_152, ↓st_152, ↓ln_152, ↓ld_162, ↓st_162, ↓ln_162, ↓ld_163, ↓st_163, ↓ln_163, ↓ld_164, ↓st_164, ↓ln_164, ↓ld_165, ↓st_165, ↓ln_165, ↓n_143, ↓s_143_0, ↓s_143_53, ↓s_143_82, ↓s_143_111, ↓s_143_136, ↓s_143_171, ↓s_143_192, ↓s_143_220, ↓pv_i, ↓pv_r, ↓pv_0, ↓pv_l, wz_pk, wz_ti, wz_wz, vI_wz, wz_id, wz_0, List.length_cons, List.length_nil, ↓reduceIte, true_and, and_true, Int.reduceLE, Int.reduceLT, Int.reduceEq, not_true_eq_false, not_false_eq_true, false_or, or_false, true_or, or_true, ite_not, Int.reduceNeg, Int32.reduceToInt, Nat.reduceAdd, Nat.reduceLeDiff, Nat.reduceLT, Nat.reduceEqDiff, Int.reduceAdd, Int.reduceSub, Int.reduceMul, Nat.zero_le, pk_po_ne, pk_po_eq, pk_po_ix, rI, ne_eq]
  apply l2
  rw [s_143_82]
  simp only [↓x_al_0, ↓gi_142_18, ↓pi_142_21, ↓gi_142_19, ↓pi_142_22, ↓gi_142_20, ↓pi_142_23, ↓x_c, ↓x_is_1, ↓x_il_1, ↓gr_142_14, ↓x_ge, ↓gr_142_10, ↓x_inc_1, ↓x_go, ↓gr_142_15, ↓gr_142_11, ↓gr_142_16, ↓gr_142_12, ↓gr_142_17, ↓gr_142_13, ↓pi_142_49, ↓pi_142_50, ↓pi_142_60, ↓gr_142_44, ↓gr_142_47, ↓gr_142_45, ↓gr_142_46, ↓x_rt, ↓ld_145, ↓st_145, ↓ln_145, ↓ld_146, ↓st_146, ↓ln_146, ↓ld_147, ↓st_147, ↓ln_147, ↓ld_148, ↓st_148, ↓ln_148, ↓ld_149, ↓st_149, ↓ln_149, ↓ld_150, ↓st_150, ↓ln_150, ↓ld_151, ↓st_151, ↓ln_151, ↓ld_152, ↓st_152, ↓ln_152, ↓ld_162, ↓st_162, ↓ln_162, ↓ld_163, ↓st_163, ↓ln_163, ↓ld_164, ↓st_164, ↓ln_164, ↓ld_165, ↓st_165, ↓ln_165, ↓n_143, ↓s_143_0, ↓s_143_53, ↓s_143_82, ↓s_143_111, ↓s_143_136, ↓s_143_171, ↓s_143_192, ↓s_143_220, ↓pv_i, ↓pv_r, ↓pv_0, ↓pv_l, wz_pk, wz_ti, wz_wz, vI_wz, wz_id, wz_0, List.length_cons, List.length_nil, ↓reduceIte, true_and, and_true, Int.reduceLE, Int.reduceLT, Int.reduceEq, not_true_eq_false, not_false_eq_true, false_or, or_false, true_or, or_true, ite_not, Int.reduceNeg, Int32.reduceToInt, Nat.reduceAdd, Nat.reduceLeDiff, Nat.reduceLT, Nat.reduceEqDiff, Int.reduceAdd, Int.reduceSub, Int.reduceMul, Nat.zero_le, pk_po_ne, pk_po_eq, pk_po_ix, rI, ne_eq]
  apply l3
  rw [s_143_111]
  simp only [↓x_al_0, ↓gi_142_18, ↓pi_142_21, ↓gi_142_19, ↓pi_142_22, ↓gi_142_20, ↓pi_142_23, ↓x_c, ↓x_is_1, ↓x_il_1, ↓gr_142_14, ↓x_ge, ↓gr_142_10, ↓x_inc_1, ↓x_go, ↓gr_142_15, ↓gr_142_11, ↓gr_142_16, ↓gr_142_12, ↓gr_142_17, ↓gr_142_13, ↓pi_142_49, ↓pi_142_50, ↓pi_142_60, ↓gr_142_44, ↓gr_142_47, ↓gr_142_45, ↓gr_142_46, ↓x_rt, ↓ld_145, ↓st_145, ↓ln_145, ↓ld_146, ↓st_146, ↓ln_146, ↓ld_147, ↓st_147, ↓ln_147, ↓ld_148, ↓st_148, ↓ln_148, ↓ld_149, ↓st_149, ↓ln_149, ↓ld_150, ↓st_150, ↓ln_150, ↓ld_151, ↓st_151, ↓ln_151, ↓ld_152, ↓st_152, ↓ln_152, ↓ld_162, ↓st_162, ↓ln_162, ↓ld_163, ↓st_163, ↓ln_163, ↓ld_164, ↓st_164, ↓ln_164, ↓ld_165, ↓st_165, ↓ln_165, ↓n_143, ↓s_143_0, ↓s_143_53, ↓s_143_82, ↓s_143_111, ↓s_143_136, ↓s_143_171, ↓s_143_192, ↓s_143_220, ↓pv_i, ↓pv_r, ↓pv_0, ↓pv_l, wz_pk, wz_ti, wz_wz, vI_wz, wz_id, wz_0, List.length_cons, List.length_nil, ↓reduceIte, true_and, and_true, Int.reduceLE, Int.reduceLT, Int.reduceEq, not_true_eq_false, not_false_eq_true, false_or, or_false, true_or, or_true, ite_not, Int.reduceNeg, Int32.reduceToInt, Nat.reduceAdd, Nat.reduceLeDiff, Nat.reduceLT, Nat.reduceEqDiff, Int.reduceAdd, Int.reduceSub, Int.reduceMul, Nat.zero_le, pk_po_ne, pk_po_eq, pk_po_ix, rI, ne_eq]
  apply l4
  rw [s_143_136]
  simp only [↓x_al_0, ↓gi_142_18, ↓pi_142_21, ↓gi_142_19, ↓pi_142_22, ↓gi_142_20, ↓pi_142_23, ↓x_c, ↓x_is_1, ↓x_il_1, ↓gr_142_14, ↓x_ge, ↓gr_142_10, ↓x_inc_1, ↓x_go, ↓gr_142_15, ↓gr_142_11, ↓gr_142_16, ↓gr_142_12, ↓gr_142_17, ↓gr_142_13, ↓pi_142_49, ↓pi_142_50, ↓pi_142_60, ↓gr_142_44, ↓gr_142_47, ↓gr_142_45, ↓gr_142_46, ↓x_rt, ↓ld_145, ↓st_145, ↓ln_145, ↓ld_146, ↓st_146, ↓ln_146, ↓ld_147, ↓st_147, ↓ln_147, ↓ld_148, ↓st_148, ↓ln_148, ↓ld_149, ↓st_149, ↓ln_149, ↓ld_150, ↓st_150, ↓ln_150, ↓ld_151, ↓st_151, ↓ln_151, ↓ld_152, ↓st_152, ↓ln_152, ↓ld_162, ↓st_162, ↓ln_162, ↓ld_163, ↓st_163, ↓ln_163, ↓ld_164, ↓st_164, ↓ln_164, ↓ld_165, ↓st_165, ↓ln_165, ↓n_143, ↓s_143_0, ↓s_143_53, ↓s_143_82, ↓s_143_111, ↓s_143_136, ↓s_143_171, ↓s_143_192, ↓s_143_220, ↓pv_i, ↓pv_r, ↓pv_0, ↓pv_l, wz_pk, wz_ti, wz_wz, vI_wz, wz_id, wz_0, List.length_cons, List.length_nil, ↓reduceIte, true_and, and_true, Int.reduceLE, Int.reduceLT, Int.reduceEq, not_true_eq_false, not_false_eq_true, false_or, or_false, true_or, or_true, ite_not, Int.reduceNeg, Int32.reduceToInt, Nat.reduceAdd, Nat.reduceLeDiff, Nat.reduceLT, Nat.reduceEqDiff, Int.reduceAdd, Int.reduceSub, Int.reduceMul, Nat.zero_le, pk_po_ne, pk_po_eq, pk_po_ix, rI, ne_eq]
  apply l5
  rw [s_143_171]
  simp only [↓x_al_0, ↓gi_142_18, ↓pi_142_21, ↓gi_142_19, ↓pi_142_22, ↓gi_142_20, ↓pi_142_23, ↓x_c, ↓x_is_1, ↓x_il_1, ↓gr_142_14, ↓x_ge, ↓gr_142_10, ↓x_inc_1, ↓x_go, ↓gr_142_15, ↓gr_142_11, ↓gr_142_16, ↓gr_142_12, ↓gr_142_17, ↓gr_142_13, ↓pi_142_49, ↓pi_142_50, ↓pi_142_60, ↓gr_142_44, ↓gr_142_47, ↓gr_142_45, ↓gr_142_46, ↓x_rt, ↓ld_145, ↓st_145, ↓ln_145, ↓ld_146, ↓st_146, ↓ln_146, ↓ld_147, ↓st_147, ↓ln_147, ↓ld_148, ↓st_148, ↓ln_148, ↓ld_149, ↓st_149, ↓ln_149, ↓ld_150, ↓st_150, ↓ln_150, ↓ld_151, ↓st_151, ↓ln_151, ↓ld_152, ↓st_152, ↓ln_152, ↓ld_162, ↓st_162, ↓ln_162, ↓ld_163, ↓st_163, ↓ln_163, ↓ld_164, ↓st_164, ↓ln_164, ↓ld_165, ↓st_165, ↓ln_165, ↓n_143, ↓s_143_0, ↓s_143_53, ↓s_143_82, ↓s_143_111, ↓s_143_136, ↓s_143_171, ↓s_143_192, ↓s_143_220, ↓pv_i, ↓pv_r, ↓pv_0, ↓pv_l, wz_pk, wz_ti, wz_wz, vI_wz, wz_id, wz_0, List.length_cons, List.length_nil, ↓reduceIte, true_and, and_true, Int.reduceLE, Int.reduceLT, Int.reduceEq, not_true_eq_false, not_false_eq_true, false_or, or_false, true_or, or_true, ite_not, Int.reduceNeg, Int32.reduceToInt, Nat.reduceAdd, Nat.reduceLeDiff, Nat.reduceLT, Nat.reduceEqDiff, Int.reduceAdd, Int.reduceSub, Int.reduceMul, Nat.zero_le, pk_po_ne, pk_po_eq, pk_po_ix, rI, ne_eq]
  apply l6
  rw [s_143_192]
  simp only [↓x_al_0, ↓gi_142_18, ↓pi_142_21, ↓gi_142_19, ↓pi_142_22, ↓gi_142_20, ↓pi_142_23, ↓x_c, ↓x_is_1, ↓x_il_1, ↓gr_142_14, ↓x_ge, ↓gr_142_10, ↓x_inc_1, ↓x_go, ↓gr_142_15, ↓gr_142_11, ↓gr_142_16, ↓gr_142_12, ↓gr_142_17, ↓gr_142_13, ↓pi_142_49, ↓pi_142_50, ↓pi_142_60, ↓gr_142_44, ↓gr_142_47, ↓gr_142_45, ↓gr_142_46, ↓x_rt, ↓ld_145, ↓st_145, ↓ln_145, ↓ld_146, ↓st_146, ↓ln_146, ↓ld_147, ↓st_147, ↓ln_147, ↓ld_148, ↓st_148, ↓ln_148, ↓ld_149, ↓st_149, ↓ln_149, ↓ld_150, ↓st_150, ↓ln_150, ↓ld_151, ↓st_151, ↓ln_151, ↓ld_152, ↓st_152, ↓ln_152, ↓ld_162, ↓st_162, ↓ln_162, ↓ld_163, ↓st_163, ↓ln_163, ↓ld_164, ↓st_164, ↓ln_164, ↓ld_165, ↓st_165, ↓ln_165, ↓n_143, ↓s_143_0, ↓s_143_53, ↓s_143_82, ↓s_143_111, ↓s_143_136, ↓s_143_171, ↓s_143_192, ↓s_143_220, ↓pv_i, ↓pv_r, ↓pv_0, ↓pv_l, wz_pk, wz_ti, wz_wz, vI_wz, wz_id, wz_0, List.length_cons, List.length_nil, ↓reduceIte, true_and, and_true, Int.reduceLE, Int.reduceLT, Int.reduceEq, not_true_eq_false, not_false_eq_true, false_or, or_false, true_or, or_true, ite_not, Int.reduceNeg, Int32.reduceToInt, Nat.reduceAdd, Nat.reduceLeDiff, Nat.reduceLT, Nat.reduceEqDiff, Int.reduceAdd, Int.reduceSub, Int.reduceMul, Nat.zero_le, pk_po_ne, pk_po_eq, pk_po_ix, rI, ne_eq]
  apply l7
  exact hQ
/-- a house read and set -/
theorem RR.setH {S0 S1 : St} {M0 M1 : Mem} (hR : RR S0 M0) (hf : ∀ a i, rst a i = true → ¬ (a = 142 ∧ (i = 2 ∨ i = 8)) → pk M1 a i = pk M0 a i) (hS : ∀ a, ¬ a = 0 → ¬ a = 2 → (a < 33 ∨ 63 ≤ a) → S1 a = S0 a) (hN : RN S1 M1) (h2 : pk M1 142 2 = 0) (z1 : S1 0 1 = 0) (z2 : S1 2 5 = -1) (hH : nho S1) : RR (su (clrC (swSH S1)) 0 11 0) (po (stM M1) 142 8 (-1)) := by
  have np := hH.np
  have ng := hH.ng
  have nd := hH.nd
  have k1 : ∀ a i, rst a i = true → rstC a i = false → rstH a i = false → ¬ (a = 142 ∧ (i = 60 ∨ i = 8)) → pk (po (stM M1) 142 8 (-1)) a i = pk M1 a i := by
    intro a i e1 e2 e3 e4
    simp only [rst, rstC, rstH, Bool.or_eq_true, Bool.and_eq_true, decide_eq_true_eq, Bool.or_eq_false_iff, Bool.and_eq_false_iff, decide_eq_false_iff_not] at e1 e2 e3
    unfold stM
    rw [pk_po, if_neg (by omega), pk_flm, if_neg (by omega), pk_flm, if_neg (by omega), pk_flm, if_neg (by omega), pk_flm, if_neg (by omega), pk_po, if_neg (by omega), pk_po, if_neg (by omega), pk_po, if_neg (by omega), pk_cpi, if_neg (by omega), pk_cpi, if_neg (by omega), pk_cpi, if_neg (by omega), pk_cpi, if_neg (by omega), pk_po, if_neg (by omega), pk_po, if_neg (by omega), pk_po, if_neg (by omega)]
  have s1 : ∀ a, ¬ a = 0 → ¬ (78 ≤ a ∧ a < 90) → su (clrC (swSH S1)) 0 11 0 a = swSH S1 a := by
    intro a h1 h3
    funext j
    simp only [su, clrC, flS]
    grind
  have s0 : ∀ i, ¬ i = 11 → su (clrC (swSH S1)) 0 11 0 0 i = S1 0 i := by
    intro i hi
    simp only [su, clrC, flS, swSH]
    grind
  have s3 : ∀ a, (a < 3 ∨ 63 ≤ a) → swSH S1 a = S1 a := by
    intro a ha
    unfold swSH
    rw [if_neg (by omega), if_neg (by omega)]
  have hh : ∀ a, 3 ≤ a → a < 33 → su (clrC (swSH S1)) 0 11 0 a = S1 (a + 30) := by
    intro a h1 h3
    rw [s1 a (by omega) (by omega)]
    unfold swSH
    rw [if_pos ⟨h1, h3⟩]
  obtain ⟨q1, q2, q3, q4, q5, q6, q7, q8, q9⟩ := hR
  obtain ⟨g1, g2, g3, g4, g5, g6, g7, g8, g9, g10, g11, g12, g13, g14, g15, g16⟩ := hN
  have w1 := wz_of g1
  have w2 := wz_of g2
  have w3 := wz_of g3
  have m1 : ∀ i, 0 ≤ i → i < 152 → pk (po (stM M1) 142 8 (-1)) 149 i = pk M1 145 i := by
    intro i e1 e2
    unfold stM
    rw [pk_po, if_neg (by omega), pk_flm, if_neg (by omega), pk_flm, if_neg (by omega), pk_flm, if_neg (by omega), pk_flm, if_neg (by omega), pk_po, if_neg (by omega), pk_po, if_neg (by omega), pk_po, if_neg (by omega), pk_cpi, if_neg (by omega), pk_cpi, if_neg (by omega), pk_cpi, if_neg (by omega), pk_cpi, if_pos (by omega), pk_po, if_neg (by omega), pk_po, if_neg (by omega), pk_po, if_neg (by omega)]
    congr 1; omega
  have m2 : ∀ i, 0 ≤ i → i < 108 → pk (po (stM M1) 142 8 (-1)) 150 i = pk M1 146 i := by
    intro i e1 e2
    unfold stM
    rw [pk_po, if_neg (by omega), pk_flm, if_neg (by omega), pk_flm, if_neg (by omega), pk_flm, if_neg (by omega), pk_flm, if_neg (by omega), pk_po, if_neg (by omega), pk_po, if_neg (by omega), pk_po, if_neg (by omega), pk_cpi, if_neg (by omega), pk_cpi, if_neg (by omega), pk_cpi, if_pos (by omega), pk_cpi, if_neg (by omega), pk_po, if_neg (by omega), pk_po, if_neg (by omega), pk_po, if_neg (by omega)]
    congr 1; omega
  have m3 : ∀ i, 0 ≤ i → i < 18 → pk (po (stM M1) 142 8 (-1)) 151 i = pk M1 147 i := by
    intro i e1 e2
    unfold stM
    rw [pk_po, if_neg (by omega), pk_flm, if_neg (by omega), pk_flm, if_neg (by omega), pk_flm, if_neg (by omega), pk_flm, if_neg (by omega), pk_po, if_neg (by omega), pk_po, if_neg (by omega), pk_po, if_neg (by omega), pk_cpi, if_neg (by omega), pk_cpi, if_pos (by omega), pk_cpi, if_neg (by omega), pk_cpi, if_neg (by omega), pk_po, if_neg (by omega), pk_po, if_neg (by omega), pk_po, if_neg (by omega)]
    congr 1; omega
  have m4 : ∀ i, 0 ≤ i → i < 4 → pk (po (stM M1) 142 8 (-1)) 152 i = pk M1 148 i := by
    intro i e1 e2
    unfold stM
    rw [pk_po, if_neg (by omega), pk_flm, if_neg (by omega), pk_flm, if_neg (by omega), pk_flm, if_neg (by omega), pk_flm, if_neg (by omega), pk_po, if_neg (by omega), pk_po, if_neg (by omega), pk_po, if_neg (by omega), pk_cpi, if_pos (by omega), pk_cpi, if_neg (by omega), pk_cpi, if_neg (by omega), pk_cpi, if_neg (by omega), pk_po, if_neg (by omega), pk_po, if_neg (by omega), pk_po, if_neg (by omega)]
    congr 1; omega
  have c1 : pk (po (stM M1) 142 8 (-1)) 142 21 = S1 33 0 := by unfold stM; simp [pk_po, pk_flm, pk_cpi, g1, w1]
  have c2 : pk (po (stM M1) 142 8 (-1)) 142 22 = S1 33 1 := by unfold stM; simp [pk_po, pk_flm, pk_cpi, g2, w2]
  have c3 : pk (po (stM M1) 142 8 (-1)) 142 23 = S1 33 2 := by unfold stM; simp [pk_po, pk_flm, pk_cpi, g3, w3]
  have d1 : pk (po (stM M1) 142 8 (-1)) 142 49 = 0 := by unfold stM; simp [pk_po, pk_flm, wz_0]
  have d2 : pk (po (stM M1) 142 8 (-1)) 142 50 = 0 := by unfold stM; simp [pk_po, pk_flm, wz_0]
  have d3 : pk (po (stM M1) 142 8 (-1)) 142 60 = 0 := by unfold stM; simp [pk_po, pk_flm, wz_0]
  have d4 : ∀ i, 0 ≤ i → i < 4 → pk (po (stM M1) 142 8 (-1)) 162 i = -1 := by intro i e1 e2; unfold stM; simp [pk_po, pk_flm, e1, e2]; rfl
  have d5 : ∀ i, 0 ≤ i → i < 12 → pk (po (stM M1) 142 8 (-1)) 163 i = -1 := by intro i e1 e2; unfold stM; simp [pk_po, pk_flm, e1, e2]; rfl
  have d6 : ∀ i, 0 ≤ i → i < 12 → pk (po (stM M1) 142 8 (-1)) 164 i = 0 := by intro i e1 e2; unfold stM; simp [pk_po, pk_flm, e1, e2, wz_0]
  have d7 : ∀ i, 0 ≤ i → i < 6 → pk (po (stM M1) 142 8 (-1)) 165 i = 0 := by intro i e1 e2; unfold stM; simp [pk_po, pk_flm, e1, e2, wz_0]
  have v0 : su (clrC (swSH S1)) 0 11 0 78 0 = 0 := by simp [su, clrC, flS]
  have v9 : su (clrC (swSH S1)) 0 11 0 78 9 = 0 := by simp [su, clrC, flS]
  have v83 : ∀ i, 0 ≤ i → i < 12 → su (clrC (swSH S1)) 0 11 0 83 i = -1 := by intro i e1 e2; simp [su, clrC, flS, e1, e2]
  have v84 : ∀ i, 0 ≤ i → i < 12 → su (clrC (swSH S1)) 0 11 0 84 i = 0 := by intro i e1 e2; simp [su, clrC, flS, e1, e2]
  have v85 : ∀ i, 0 ≤ i → i < 6 → su (clrC (swSH S1)) 0 11 0 85 i = 0 := by intro i e1 e2; simp [su, clrC, flS, e1, e2]
  have v86 : ∀ i, 0 ≤ i → i < 4 → su (clrC (swSH S1)) 0 11 0 86 i = -1 := by intro i e1 e2; simp [su, clrC, flS, e1, e2]
  refine ⟨?_, ?_, ?_, ?_, ?_, ?_, ?_, ?_, ?_⟩
  · rw [k1 _ _ rfl rfl rfl (by decide), s0 1 (by decide), z1]; exact h2
  · intro i e1 e2
    rw [s0 1 (by decide), z1] at e2
    omega
  · rw [pk_po_eq, s1 2 (by decide) (by decide), s3 2 (by decide), z2]; rfl
  · unfold RRh
    simp only [hh 3 (by decide) (by decide), hh 4 (by decide) (by decide), hh 5 (by decide) (by decide), hh 10 (by decide) (by decide), hh 11 (by decide) (by decide), hh 12 (by decide) (by decide), hh 13 (by decide) (by decide), hh 14 (by decide) (by decide), hh 27 (by decide) (by decide), hh 28 (by decide) (by decide), hh 29 (by decide) (by decide), hh 30 (by decide) (by decide), hh 31 (by decide) (by decide), hh 32 (by decide) (by decide), Nat.reduceAdd]
    refine ⟨c1, c2, c3, ?_, ?_, ?_, ?_, ?_, ?_, ?_, ?_, ?_, ?_, ?_, ?_, ?_⟩
    · intro i e1 e2; rw [m1 _ (by omega) (by omega)]; exact g4 i e1 e2
    · intro i u e1 e2 e3 e4; rw [m1 _ (by omega) (by omega)]; exact g5 i u e1 e2 e3 e4
    · intro i e1 e2; rw [m1 _ (by omega) (by omega)]; exact g6 i e1 e2
    · intro i e1 e2; rw [m2 _ (by omega) (by omega)]; exact g7 i e1 e2
    · intro i e1 e2; rw [m2 _ (by omega) (by omega)]; exact g8 i e1 e2
    · intro i e1 e2; rw [m2 _ (by omega) (by omega)]; exact g9 i e1 e2
    · intro i e1 e2; rw [m2 _ (by omega) (by omega)]; exact g10 i e1 e2
    · intro i e1 e2; rw [m2 _ (by omega) (by omega)]; exact g11 i e1 e2
    · intro i u e1 e2 e3 e4; rw [m2 _ (by omega) (by omega)]; exact g12 i u e1 e2 e3 e4
    · intro i e1 e2; rw [m3 _ (by omega) (by omega)]; exact g13 i e1 e2
    · intro i e1 e2; rw [m3 _ (by omega) (by omega)]; exact g14 i e1 e2
    · intro i e1 e2; rw [m3 _ (by omega) (by omega)]; exact g15 i e1 e2
    · intro i e1 e2; rw [m4 _ e1 e2]; exact g16 i e1 e2
  · have q5' : RRl S0 (po (stM M1) 142 8 (-1)) := q5.sm (fun a i h => by
      have hr := rstL_r h
      simp only [rstL, Bool.or_eq_true, decide_eq_true_eq] at h
      have e1 : rstC a i = false := by simp only [rstC, Bool.or_eq_false_iff, Bool.and_eq_false_iff, decide_eq_false_iff_not]; omega
      have e2 : rstH a i = false := by simp only [rstH, Bool.or_eq_false_iff, Bool.and_eq_false_iff, decide_eq_false_iff_not]; omega
      rw [k1 a i hr e1 e2 (by omega), hf a i hr (by omega)])
    exact q5'.st (fun a e1 e2 => by rw [s1 a (by omega) (by omega), s3 a (by omega), hS a (by omega) (by omega) (by omega)])
  · unfold RRc
    rw [v0, v9]
    refine ⟨d1, ?_, ?_, ?_, ?_, ?_, ?_, ?_, ?_, d2, ?_, ?_, ?_⟩
    · intro i e1 e2; omega
    · intro i e1 e2; omega
    · intro i e1 e2; omega
    · intro i e1 e2; omega
    · intro i e1 e2; rw [d4 i e1 e2, v86 i e1 e2]
    · intro i e1 e2; rw [d5 i e1 e2, v83 i e1 e2]
    · intro i e1 e2; rw [d6 i e1 e2, v84 i e1 e2]
    · intro i e1 e2; rw [d7 i e1 e2, v85 i e1 e2]
    · intro i e1 e2; omega
    · intro i e1 e2; omega
    · intro i e1 e2; omega
  · intro i e1 e2
    rw [k1 _ _ rfl rfl rfl (by omega), hf _ _ rfl (by omega), s1 105 (by decide) (by decide), s3 105 (by decide), hS 105 (by decide) (by decide) (by decide)]
    exact q7 i e1 e2
  · rw [d3]; simp [su]
  · intro j hj
    have : (j : Int) < 0 := by simpa [su] using hj
    omega
end R80
