section C40
variable {Q : MOut → MHp → Prop} {X : Nat × (Nat → Int32)} {s : Bool × Bool} {dh dl t : Nat} {M : Mem} {S : St}
theorem C61 {p : Int} (hC : RC S M) (hH : hou S) (hI : crs S 78) (hp : 0 ≤ p ∧ p < S 3 0)
    (hQ : ∀ M', fx [92, 93, 94] M M' → pk M' 92 0 = coin S p → pk M' 92 1 = (ranks S p).2.2 → (∀ d, 0 ≤ d → d < S 3 2 → pk M' 93 d = (ranks S p).2.1 d) → Q (.inl none) (mkh X s dh dl t M')) : CL 61 [.ref 92, .ref (hA s), .ref 78, vI p] (mkh X s dh dl t M) Q := by
  have h1 := hH.nd
  have h2 := hH.np
  have hcn := coin_rng hH hI hp
  have hst := c78_stage hI p hp.1 (by omega)
  have hfe := fees_rng (k := S 86 p) hH (by omega)
  have wp : wz p = p := wz_id (by omega) (by omega)
  have key : ∀ M', fx [92, 93, 94] M M' → pk M' 92 0 = coin S p → pk M' 92 1 = (rk S p (0 : Nat)).2.2 → (∀ d, 0 ≤ d → d < S 3 2 → pk M' 93 d = (rk S p (0 : Nat)).2.1 d) → EX 61 (sx 61 48) [.ref 92, .ref (hA s), .ref 78, vI p, vI (rk S p (0 : Nat)).1, vI ((0 : Nat) : Int)] [] (mkh X s dh dl t M') Q := by
    refine lp (n := (S 3 2).toNat) (fun n => ∀ M', fx [92, 93, 94] M M' → pk M' 92 0 = coin S p → pk M' 92 1 = (rk S p n).2.2 → (∀ d, 0 ≤ d → d < S 3 2 → pk M' 93 d = (rk S p n).2.1 d) → EX 61 (sx 61 48) [.ref 92, .ref (hA s), .ref 78, vI p, vI (rk S p n).1, vI n] [] (mkh X s dh dl t M') Q) ?_ ?_
    · intro M' f a0 a1 a2
      replace hC := hC.fxx f rfl
      have e1 : S 3 2 ≤ (S 3 2).toNat := by omega
      have e := hQ M' f a0 a1 a2
      rw [s_61_48]
      simp (disch := omega) only [↓x_al_0, ↓x_al_1, ↓x_al_2, ↓x_il_3, ↓c_62, ↓pi_92_0, ↓x_c, ↓gi_92_0, ↓gr_78_8, ↓c_23_hA, ↓x_isub, ↓x_mm1, ↓pi_92_1, ↓gr_92_2, ↓c_201, ↓x_is_4, ↓x_is_5, ↓x_il_5, ↓gi_hA_2, ↓gi_hB_2, ↓x_ge, ↓x_il_4, ↓c_63, ↓x_ne, ↓x_rt, ↓c_64, ↓c_65, ↓x_inc_5, ↓x_go, ↓ld_86, ↓ld_93, ↓n_61, ↓s_61_0, ↓s_61_75, ↓s_61_95, ↓bk_v, ↓bk_n, ↓bk_r, ↓pv_i, ↓pv_r, ↓pv_0, ↓pv_l, wz_pk, wz_ti, wz_wz, vI_wz, wz_id, wz_0, List.length_cons, List.length_nil, ↓reduceIte, true_and, and_true, Int.reduceLE, Int.reduceLT, Int.reduceEq, not_true_eq_false, not_false_eq_true, false_or, or_false, true_or, or_true, ite_not, Int.reduceNeg, Int32.reduceToInt, Nat.reduceAdd, Nat.reduceLeDiff, Nat.reduceLT, Nat.reduceEqDiff, Int.reduceAdd, Int.reduceSub, Int.reduceMul, Nat.zero_le, pk_po_ne, pk_po_eq, pk_po_ix, rI, ne_eq, hC.at 3 rfl, hC.wzz 3 rfl, e1, if_true]
      exact e
    · intro n hn ih M' f a0 a1 a2
      replace hC := hC.fxx f rfl
      have e1 : ¬ S 3 2 ≤ n := by omega
      have rw1 := rk_w (p := p) hH n
      have wa : wz (rk S p n).1 = (rk S p n).1 := wz_id (by omega) (by omega)
      have nr := nwN_rng (p := p) (a := (rk S p n).1) hH (S 3 2).toNat (by omega)
      have wn : wz (nw S p (rk S p n).1) = nw S p (rk S p n).1 := wz_id (by unfold nw; omega) (by unfold nw; omega)
      rw [s_61_48]
      by_cases c1 : nw S p (rk S p n).1 = -1
      · have e2 := rk_stop c1 ((S 3 2).toNat - n)
        rw [show n + ((S 3 2).toNat - n) = (S 3 2).toNat by omega] at e2
        have e := hQ M' f a0 (by rw [ranks, e2]; exact a1) (by rw [ranks, e2]; exact a2)
        simp (disch := omega) only [↓x_al_0, ↓x_al_1, ↓x_al_2, ↓x_il_3, ↓c_62, ↓pi_92_0, ↓x_c, ↓gi_92_0, ↓gr_78_8, ↓c_23_hA, ↓x_isub, ↓x_mm1, ↓pi_92_1, ↓gr_92_2, ↓c_201, ↓x_is_4, ↓x_is_5, ↓x_il_5, ↓gi_hA_2, ↓gi_hB_2, ↓x_ge, ↓x_il_4, ↓c_63, ↓x_ne, ↓x_rt, ↓c_64, ↓c_65, ↓x_inc_5, ↓x_go, ↓ld_86, ↓ld_93, ↓n_61, ↓s_61_0, ↓s_61_75, ↓s_61_95, ↓bk_v, ↓bk_n, ↓bk_r, ↓pv_i, ↓pv_r, ↓pv_0, ↓pv_l, wz_pk, wz_ti, wz_wz, vI_wz, wz_id, wz_0, List.length_cons, List.length_nil, ↓reduceIte, true_and, and_true, Int.reduceLE, Int.reduceLT, Int.reduceEq, not_true_eq_false, not_false_eq_true, false_or, or_false, true_or, or_true, ite_not, Int.reduceNeg, Int32.reduceToInt, Nat.reduceAdd, Nat.reduceLeDiff, Nat.reduceLT, Nat.reduceEqDiff, Int.reduceAdd, Int.reduceSub, Int.reduceMul, Nat.zero_le, pk_po_ne, pk_po_eq, pk_po_ix, rI, ne_eq, hC.at 3 rfl, hC.wzz 3 rfl, e1, if_false, ↓C63 hC hH wp wa, wn, c1, if_true]
        exact e
      · simp only [rk] at ih
        rw [if_neg c1] at ih
        have ho := owedR_pos hH c1
        have hlf := rk_left (p := p) hH n
        simp (disch := omega) only [↓x_al_0, ↓x_al_1, ↓x_al_2, ↓x_il_3, ↓c_62, ↓pi_92_0, ↓x_c, ↓gi_92_0, ↓gr_78_8, ↓c_23_hA, ↓x_isub, ↓x_mm1, ↓pi_92_1, ↓gr_92_2, ↓c_201, ↓x_is_4, ↓x_is_5, ↓x_il_5, ↓gi_hA_2, ↓gi_hB_2, ↓x_ge, ↓x_il_4, ↓c_63, ↓x_ne, ↓x_rt, ↓c_64, ↓c_65, ↓x_inc_5, ↓x_go, ↓ld_86, ↓ld_93, ↓n_61, ↓s_61_0, ↓s_61_75, ↓s_61_95, ↓bk_v, ↓bk_n, ↓bk_r, ↓pv_i, ↓pv_r, ↓pv_0, ↓pv_l, wz_pk, wz_ti, wz_wz, vI_wz, wz_id, wz_0, List.length_cons, List.length_nil, ↓reduceIte, true_and, and_true, Int.reduceLE, Int.reduceLT, Int.reduceEq, not_true_eq_false, not_false_eq_true, false_or, or_false, true_or, or_true, ite_not, Int.reduceNeg, Int32.reduceToInt, Nat.reduceAdd, Nat.reduceLeDiff, Nat.reduceLT, Nat.reduceEqDiff, Int.reduceAdd, Int.reduceSub, Int.reduceMul, Nat.zero_le, pk_po_ne, pk_po_eq, pk_po_ix, rI, ne_eq, hC.at 3 rfl, hC.wzz 3 rfl, e1, if_false, ↓C63 hC hH wp wa, wn, c1]
        refine C64 hC hH wp wn ?_
        intro M1 f1 b1
        have f1' : fx [92, 93, 94] M M1 := f.trans (f1.sub rfl)
        have hC1 := hC.fxx f1 rfl
        simp only [↓x_al_0, ↓x_al_1, ↓x_al_2, ↓x_il_3, ↓c_62, ↓pi_92_0, ↓x_c, ↓gi_92_0, ↓gr_78_8, ↓c_23_hA, ↓x_isub, ↓x_mm1, ↓pi_92_1, ↓gr_92_2, ↓c_201, ↓x_is_4, ↓x_is_5, ↓x_il_5, ↓gi_hA_2, ↓gi_hB_2, ↓x_ge, ↓x_il_4, ↓c_63, ↓x_ne, ↓x_rt, ↓c_64, ↓c_65, ↓x_inc_5, ↓x_go, ↓ld_86, ↓ld_93, ↓n_61, ↓s_61_0, ↓s_61_75, ↓s_61_95, ↓bk_v, ↓bk_n, ↓bk_r, ↓pv_i, ↓pv_r, ↓pv_0, ↓pv_l, wz_pk, wz_ti, wz_wz, vI_wz, wz_id, wz_0, List.length_cons, List.length_nil, ↓reduceIte, true_and, and_true, Int.reduceLE, Int.reduceLT, Int.reduceEq, not_true_eq_false, not_false_eq_true, false_or, or_false, true_or, or_true, ite_not, Int.reduceNeg, Int32.reduceToInt, Nat.reduceAdd, Nat.reduceLeDiff, Nat.reduceLT, Nat.reduceEqDiff, Int.reduceAdd, Int.reduceSub, Int.reduceMul, Nat.zero_le, pk_po_ne, pk_po_eq, pk_po_ix, rI, ne_eq]
        refine C65 (q := (rk S p n).2.1) (l := (rk S p n).2.2) hC1 hH b1 (fun d u v => by rw [f1.at (by decide)]; exact a2 d u v) (by rw [f1.at (by decide)]; exact a1) hlf ho ?_
        intro M2 f2 c2 c3 c4
        have ih2 := ih M2 (f1'.trans (f2.sub rfl)) (by rw [c4, f1.at (by decide)]; exact a0) c3 c2
        simp only [↓x_al_0, ↓x_al_1, ↓x_al_2, ↓x_il_3, ↓c_62, ↓pi_92_0, ↓x_c, ↓gi_92_0, ↓gr_78_8, ↓c_23_hA, ↓x_isub, ↓x_mm1, ↓pi_92_1, ↓gr_92_2, ↓c_201, ↓x_is_4, ↓x_is_5, ↓x_il_5, ↓gi_hA_2, ↓gi_hB_2, ↓x_ge, ↓x_il_4, ↓c_63, ↓x_ne, ↓x_rt, ↓c_64, ↓c_65, ↓x_inc_5, ↓x_go, ↓ld_86, ↓ld_93, ↓n_61, ↓s_61_0, ↓s_61_75, ↓s_61_95, ↓bk_v, ↓bk_n, ↓bk_r, ↓pv_i, ↓pv_r, ↓pv_0, ↓pv_l, wz_pk, wz_ti, wz_wz, vI_wz, wz_id, wz_0, List.length_cons, List.length_nil, ↓reduceIte, true_and, and_true, Int.reduceLE, Int.reduceLT, Int.reduceEq, not_true_eq_false, not_false_eq_true, false_or, or_false, true_or, or_true, ite_not, Int.reduceNeg, Int32.reduceToInt, Nat.reduceAdd, Nat.reduceLeDiff, Nat.reduceLT, Nat.reduceEqDiff, Int.reduceAdd, Int.reduceSub, Int.reduceMul, Nat.zero_le, pk_po_ne, pk_po_eq, pk_po_ix, rI, ne_eq]
        exact ih2
  have hC1 := hC.pw (a := 92) (i := 0) (x := coin S p) rfl (by decide)
  have e0 : pk (po M 92 0 (coin S p)) 92 0 = coin S p := by rw [pk_po_eq]; exact wz_id (by omega) (by omega)
  have q4 : p < 4 := by omega
  have q5 : (0 : Int) ≤ p := hp.1
  simp (disch := omega) only [↓x_al_0, ↓x_al_1, ↓x_al_2, ↓x_il_3, ↓c_62, ↓pi_92_0, ↓x_c, ↓gi_92_0, ↓gr_78_8, ↓c_23_hA, ↓x_isub, ↓x_mm1, ↓pi_92_1, ↓gr_92_2, ↓c_201, ↓x_is_4, ↓x_is_5, ↓x_il_5, ↓gi_hA_2, ↓gi_hB_2, ↓x_ge, ↓x_il_4, ↓c_63, ↓x_ne, ↓x_rt, ↓c_64, ↓c_65, ↓x_inc_5, ↓x_go, ↓ld_86, ↓ld_93, ↓n_61, ↓s_61_0, ↓s_61_75, ↓s_61_95, ↓bk_v, ↓bk_n, ↓bk_r, ↓pv_i, ↓pv_r, ↓pv_0, ↓pv_l, wz_pk, wz_ti, wz_wz, vI_wz, wz_id, wz_0, List.length_cons, List.length_nil, ↓reduceIte, true_and, and_true, Int.reduceLE, Int.reduceLT, Int.reduceEq, not_true_eq_false, not_false_eq_true, false_or, or_false, true_or, or_true, ite_not, Int.reduceNeg, Int32.reduceToInt, Nat.reduceAdd, Nat.reduceLeDiff, Nat.reduceLT, Nat.reduceEqDiff, Int.reduceAdd, Int.reduceSub, Int.reduceMul, Nat.zero_le, pk_po_ne, pk_po_eq, pk_po_ix, rI, ne_eq, hC.at 86 rfl, hC.wzz 86 rfl, ↓C62 hC hH hI hp, q4, q5, ↓C23 hC1 hst.1 hst.2, e0]
  have w1 : wz (coin S p - feesTo S (S 86 p)) = coin S p - feesTo S (S 86 p) := wz_id (by omega) (by omega)
  try rw [w1]
  rw [C201 (n := 6) (d := 93) (f := 0) (by rw [swp_out (by decide)]; rfl) (by decide) (by decide)]
  simp only [↓x_al_0, ↓x_al_1, ↓x_al_2, ↓x_il_3, ↓c_62, ↓pi_92_0, ↓x_c, ↓gi_92_0, ↓gr_78_8, ↓c_23_hA, ↓x_isub, ↓x_mm1, ↓pi_92_1, ↓gr_92_2, ↓c_201, ↓x_is_4, ↓x_is_5, ↓x_il_5, ↓gi_hA_2, ↓gi_hB_2, ↓x_ge, ↓x_il_4, ↓c_63, ↓x_ne, ↓x_rt, ↓c_64, ↓c_65, ↓x_inc_5, ↓x_go, ↓ld_86, ↓ld_93, ↓n_61, ↓s_61_0, ↓s_61_75, ↓s_61_95, ↓bk_v, ↓bk_n, ↓bk_r, ↓pv_i, ↓pv_r, ↓pv_0, ↓pv_l, wz_pk, wz_ti, wz_wz, vI_wz, wz_id, wz_0, List.length_cons, List.length_nil, ↓reduceIte, true_and, and_true, Int.reduceLE, Int.reduceLT, Int.reduceEq, not_true_eq_false, not_false_eq_true, false_or, or_false, true_or, or_true, ite_not, Int.reduceNeg, Int32.reduceToInt, Nat.reduceAdd, Nat.reduceLeDiff, Nat.reduceLT, Nat.reduceEqDiff, Int.reduceAdd, Int.reduceSub, Int.reduceMul, Nat.zero_le, pk_po_ne, pk_po_eq, pk_po_ix, rI, ne_eq]
  refine key _ (((fx.rfl.pw (by decide)).pw (by decide)).fil (by decide)) ?_ ?_ ?_
  · rw [pk_flm, if_neg (by omega), pk_po_ix (by decide), pk_po_eq]
    exact wz_id (by omega) (by omega)
  · rw [pk_flm, if_neg (by omega), pk_po_eq]
    simp only [rk]
    exact wz_id (by omega) (by omega)
  · intro d a b
    rw [pk_flm, if_pos ⟨rfl, by omega, by omega⟩]
    rfl
theorem C113 {d : Int} (hC : RC S M) (hH : hou S) (hI : crs S 78) (hd : 0 ≤ d ∧ d < S 3 2)
    (hQ : ∀ M', fx [92, 93, 94] M M' → Q (rI (got S d)) (mkh X s dh dl t M')) : CL 113 [.ref 0, vI d] (mkh X s dh dl t M) Q := by
  have h1 := hH.nd
  have h2 := hH.dbt d hd.1 hd.2
  have q4 : d < 6 := by omega
  have q5 : (0 : Int) ≤ d := hd.1
  simp (disch := omega) only [↓x_al_0, ↓gr_0_13, ↓gd_0_3, ↓gr_0_9, ↓gr_hA_12, ↓gr_hB_12, ↓x_il_1, ↓c_61, ↓gr_92_2, ↓x_ir, ↓ld_93, ↓ld_hA_26, ↓ld_hB_26, ↓n_113, ↓s_113_0, ↓bk_v, ↓bk_n, ↓bk_r, ↓be_113, ↓pv_i, ↓pv_r, ↓pv_0, ↓pv_l, wz_pk, wz_ti, wz_wz, vI_wz, wz_id, wz_0, List.length_cons, List.length_nil, ↓reduceIte, true_and, and_true, Int.reduceLE, Int.reduceLT, Int.reduceEq, not_true_eq_false, not_false_eq_true, false_or, or_false, true_or, or_true, ite_not, Int.reduceNeg, Int32.reduceToInt, Nat.reduceAdd, Nat.reduceLeDiff, Nat.reduceLT, Nat.reduceEqDiff, Int.reduceAdd, Int.reduceSub, Int.reduceMul, Nat.zero_le, pk_po_ne, pk_po_eq, pk_po_ix, rI, ne_eq, hC.at 29 rfl, hC.wzz 29 rfl, q4, q5]
  refine C61 hC hH hI h2 ?_
  intro M' f a0 a1 a2
  have e := hQ M' f
  have a3 := a2 d hd.1 hd.2
  simp (disch := omega) only [↓x_al_0, ↓gr_0_13, ↓gd_0_3, ↓gr_0_9, ↓gr_hA_12, ↓gr_hB_12, ↓x_il_1, ↓c_61, ↓gr_92_2, ↓x_ir, ↓ld_93, ↓ld_hA_26, ↓ld_hB_26, ↓n_113, ↓s_113_0, ↓bk_v, ↓bk_n, ↓bk_r, ↓be_113, ↓pv_i, ↓pv_r, ↓pv_0, ↓pv_l, wz_pk, wz_ti, wz_wz, vI_wz, wz_id, wz_0, List.length_cons, List.length_nil, ↓reduceIte, true_and, and_true, Int.reduceLE, Int.reduceLT, Int.reduceEq, not_true_eq_false, not_false_eq_true, false_or, or_false, true_or, or_true, ite_not, Int.reduceNeg, Int32.reduceToInt, Nat.reduceAdd, Nat.reduceLeDiff, Nat.reduceLT, Nat.reduceEqDiff, Int.reduceAdd, Int.reduceSub, Int.reduceMul, Nat.zero_le, pk_po_ne, pk_po_eq, pk_po_ix, rI, ne_eq, q4, q5, a3]
  exact e
theorem K82 {p w : Int} (hC : RC S M) (hH : hou S) (hI : crs S 78) (hp : wz p = p) (hw : wz w = w) (hP : PC X s dh dl t M Q (o_person S p w)) : CL 82 [.ref 0, vI p, vI w] (mkh X s dh dl t M) Q := by
  have h1 := hH.np
  simp only [↓x_al_0, ↓x_il_1, ↓gd_0_3, ↓gi_hA_0, ↓gi_hB_0, ↓c_109, ↓x_il_2, ↓x_c, ↓c_110, ↓w_2, ↓gr_hA_3, ↓gr_hB_3, ↓x_ir, ↓gr_0_9, ↓gr_78_8, ↓c_23_hA, ↓gr_0_13, ↓c_61, ↓x_ne, ↓gi_92_0, ↓x_go, ↓gi_92_1, ↓ld_86, ↓ld_hA_1, ↓ld_hB_1, ↓n_82, ↓s_82_0, ↓s_82_48, ↓s_82_58, ↓s_82_68, ↓s_82_85, ↓s_82_116, ↓s_82_123, ↓bk_v, ↓bk_n, ↓bk_r, ↓be_82, ↓pv_i, ↓pv_r, ↓pv_0, ↓pv_l, wz_pk, wz_ti, wz_wz, vI_wz, wz_id, wz_0, List.length_cons, List.length_nil, ↓reduceIte, true_and, and_true, Int.reduceLE, Int.reduceLT, Int.reduceEq, not_true_eq_false, not_false_eq_true, false_or, or_false, true_or, or_true, ite_not, Int.reduceNeg, Int32.reduceToInt, Nat.reduceAdd, Nat.reduceLeDiff, Nat.reduceLT, Nat.reduceEqDiff, Int.reduceAdd, Int.reduceSub, Int.reduceMul, Nat.zero_le, pk_po_ne, pk_po_eq, pk_po_ix, rI, ne_eq, hC.at 3 rfl, hC.wzz 3 rfl, hC.at 4 rfl, hC.wzz 4 rfl, hC.at 86 rfl, hC.wzz 86 rfl, ↓C109 hC, ↓C110 hC, hp, hw]
  by_cases h2 : 0 ≤ p ∧ p < S 3 0
  · rw [if_pos h2]
    have hst := c78_stage hI p h2.1 (by omega)
    have q4 : p < 4 := by omega
    have q5 : (0 : Int) ≤ p := h2.1
    by_cases h3 : 0 ≤ w ∧ w ≤ 4
    · rw [if_pos h3]
      have e := fun M' hC' hF' => hP.ok (M' := M') (by rw [o_person, if_pos h2, if_pos h3]) hC' hF'
      by_cases c0 : w = 0
      · subst c0
        have e := e M hC FC.rfl
        simp only [if_true] at e
        simp only [if_true, q4, q5, and_self, true_and]
        exact e
      · by_cases c1 : w = 1
        · subst c1
          have e := e M hC FC.rfl
          simp only [if_true, Int.reduceEq, if_false] at e
          simp only [if_true, q4, q5, and_self, true_and, Int.reduceEq, if_false]
          exact e
        · by_cases c2 : w = 2
          · subst c2
            have e := e M hC FC.rfl
            simp only [if_true, Int.reduceEq, if_false] at e
            simp only [if_true, q4, q5, and_self, true_and, Int.reduceEq, if_false]
            rw [C23 hC hst.1 hst.2]
            simp only [↓x_al_0, ↓x_il_1, ↓gd_0_3, ↓gi_hA_0, ↓gi_hB_0, ↓c_109, ↓x_il_2, ↓x_c, ↓c_110, ↓w_2, ↓gr_hA_3, ↓gr_hB_3, ↓x_ir, ↓gr_0_9, ↓gr_78_8, ↓c_23_hA, ↓gr_0_13, ↓c_61, ↓x_ne, ↓gi_92_0, ↓x_go, ↓gi_92_1, ↓ld_86, ↓ld_hA_1, ↓ld_hB_1, ↓n_82, ↓s_82_0, ↓s_82_48, ↓s_82_58, ↓s_82_68, ↓s_82_85, ↓s_82_116, ↓s_82_123, ↓bk_v, ↓bk_n, ↓bk_r, ↓be_82, ↓pv_i, ↓pv_r, ↓pv_0, ↓pv_l, wz_pk, wz_ti, wz_wz, vI_wz, wz_id, wz_0, List.length_cons, List.length_nil, ↓reduceIte, true_and, and_true, Int.reduceLE, Int.reduceLT, Int.reduceEq, not_true_eq_false, not_false_eq_true, false_or, or_false, true_or, or_true, ite_not, Int.reduceNeg, Int32.reduceToInt, Nat.reduceAdd, Nat.reduceLeDiff, Nat.reduceLT, Nat.reduceEqDiff, Int.reduceAdd, Int.reduceSub, Int.reduceMul, Nat.zero_le, pk_po_ne, pk_po_eq, pk_po_ix, rI, ne_eq]
            exact e
          · simp only [c0, c1, c2, if_false] at e ⊢
            refine C61 hC hH hI h2 ?_
            intro M' f a0 a1 a2
            have e := e M' (hC.fxx f rfl) (FC.fxx f rfl)
            simp only [↓x_al_0, ↓x_il_1, ↓gd_0_3, ↓gi_hA_0, ↓gi_hB_0, ↓c_109, ↓x_il_2, ↓x_c, ↓c_110, ↓w_2, ↓gr_hA_3, ↓gr_hB_3, ↓x_ir, ↓gr_0_9, ↓gr_78_8, ↓c_23_hA, ↓gr_0_13, ↓c_61, ↓x_ne, ↓gi_92_0, ↓x_go, ↓gi_92_1, ↓ld_86, ↓ld_hA_1, ↓ld_hB_1, ↓n_82, ↓s_82_0, ↓s_82_48, ↓s_82_58, ↓s_82_68, ↓s_82_85, ↓s_82_116, ↓s_82_123, ↓bk_v, ↓bk_n, ↓bk_r, ↓be_82, ↓pv_i, ↓pv_r, ↓pv_0, ↓pv_l, wz_pk, wz_ti, wz_wz, vI_wz, wz_id, wz_0, List.length_cons, List.length_nil, ↓reduceIte, true_and, and_true, Int.reduceLE, Int.reduceLT, Int.reduceEq, not_true_eq_false, not_false_eq_true, false_or, or_false, true_or, or_true, ite_not, Int.reduceNeg, Int32.reduceToInt, Nat.reduceAdd, Nat.reduceLeDiff, Nat.reduceLT, Nat.reduceEqDiff, Int.reduceAdd, Int.reduceSub, Int.reduceMul, Nat.zero_le, pk_po_ne, pk_po_eq, pk_po_ix, rI, ne_eq, a0, a1, hw]
            grind
    · rw [if_neg h3]
      exact hP.no 1 (by rw [o_person, if_pos h2, if_neg h3]; rfl) hC.ref (FC.rfl.pw (by decide))
  · rw [if_neg h2]
    exact hP.no 0 (by rw [o_person, if_neg h2]; rfl) hC.ref (FC.rfl.pw (by decide))
theorem K86 {d w : Int} (hC : RC S M) (hH : hou S) (hI : crs S 78) (hd : wz d = d) (hw : wz w = w) (hP : PC X s dh dl t M Q (o_debt S d w)) : CL 86 [.ref 0, vI d, vI w] (mkh X s dh dl t M) Q := by
  have h1 := hH.nd
  simp only [↓x_al_0, ↓x_il_1, ↓gd_0_3, ↓gi_hA_2, ↓gi_hB_2, ↓c_109, ↓x_il_2, ↓x_c, ↓c_110, ↓w_4, ↓gr_hA_12, ↓gr_hB_12, ↓x_ir, ↓gr_hA_13, ↓gr_hB_13, ↓gr_hA_14, ↓gr_hB_14, ↓c_113, ↓gr_0_9, ↓gr_78_7, ↓ld_85, ↓ld_hA_26, ↓ld_hA_27, ↓ld_hA_28, ↓ld_hB_26, ↓ld_hB_27, ↓ld_hB_28, ↓n_86, ↓s_86_0, ↓s_86_52, ↓s_86_62, ↓s_86_72, ↓s_86_82, ↓s_86_88, ↓bk_v, ↓bk_n, ↓bk_r, ↓be_86, ↓pv_i, ↓pv_r, ↓pv_0, ↓pv_l, wz_pk, wz_ti, wz_wz, vI_wz, wz_id, wz_0, List.length_cons, List.length_nil, ↓reduceIte, true_and, and_true, Int.reduceLE, Int.reduceLT, Int.reduceEq, not_true_eq_false, not_false_eq_true, false_or, or_false, true_or, or_true, ite_not, Int.reduceNeg, Int32.reduceToInt, Nat.reduceAdd, Nat.reduceLeDiff, Nat.reduceLT, Nat.reduceEqDiff, Int.reduceAdd, Int.reduceSub, Int.reduceMul, Nat.zero_le, pk_po_ne, pk_po_eq, pk_po_ix, rI, ne_eq, hC.at 3 rfl, hC.wzz 3 rfl, hC.at 29 rfl, hC.wzz 29 rfl, hC.at 30 rfl, hC.wzz 30 rfl, hC.at 31 rfl, hC.wzz 31 rfl, hC.at 85 rfl, hC.wzz 85 rfl, ↓C109 hC, ↓C110 hC, hd, hw]
  by_cases h2 : 0 ≤ d ∧ d < S 3 2
  · rw [if_pos h2]
    by_cases h3 : 0 ≤ w ∧ w ≤ 4
    · rw [if_pos h3]
      have e := fun M' hC' hF' => hP.ok (M' := M') (by rw [o_debt, if_pos h2, if_pos h3]) hC' hF'
      by_cases c3 : w = 3
      · subst c3
        simp only [if_true, Int.reduceEq, if_false] at e ⊢
        refine C113 hC hH hI h2 ?_
        intro M' f
        have e := e M' (hC.fxx f rfl) (FC.fxx f rfl)
        simp only [↓x_al_0, ↓x_il_1, ↓gd_0_3, ↓gi_hA_2, ↓gi_hB_2, ↓c_109, ↓x_il_2, ↓x_c, ↓c_110, ↓w_4, ↓gr_hA_12, ↓gr_hB_12, ↓x_ir, ↓gr_hA_13, ↓gr_hB_13, ↓gr_hA_14, ↓gr_hB_14, ↓c_113, ↓gr_0_9, ↓gr_78_7, ↓ld_85, ↓ld_hA_26, ↓ld_hA_27, ↓ld_hA_28, ↓ld_hB_26, ↓ld_hB_27, ↓ld_hB_28, ↓n_86, ↓s_86_0, ↓s_86_52, ↓s_86_62, ↓s_86_72, ↓s_86_82, ↓s_86_88, ↓bk_v, ↓bk_n, ↓bk_r, ↓be_86, ↓pv_i, ↓pv_r, ↓pv_0, ↓pv_l, wz_pk, wz_ti, wz_wz, vI_wz, wz_id, wz_0, List.length_cons, List.length_nil, ↓reduceIte, true_and, and_true, Int.reduceLE, Int.reduceLT, Int.reduceEq, not_true_eq_false, not_false_eq_true, false_or, or_false, true_or, or_true, ite_not, Int.reduceNeg, Int32.reduceToInt, Nat.reduceAdd, Nat.reduceLeDiff, Nat.reduceLT, Nat.reduceEqDiff, Int.reduceAdd, Int.reduceSub, Int.reduceMul, Nat.zero_le, pk_po_ne, pk_po_eq, pk_po_ix, rI, ne_eq]
        exact e
      · have e := e M hC FC.rfl
        grind
    · rw [if_neg h3]
      exact hP.no 1 (by rw [o_debt, if_pos h2, if_neg h3]; rfl) hC.ref (FC.rfl.pw (by decide))
  · rw [if_neg h2]
    exact hP.no 0 (by rw [o_debt, if_neg h2]; rfl) hC.ref (FC.rfl.pw (by decide))
theorem K95 {d : Int} (hC : RC S M) (hH : hou S) (hI : crs S 78) (hd : wz d = d) (hP : PC X s dh dl t M Q (o_aside S d)) : CL 95 [.ref 0, vI d] (mkh X s dh dl t M) Q := by
  have h1 := hH.nd
  simp only [↓x_al_0, ↓x_il_1, ↓gd_0_3, ↓gi_hA_2, ↓gi_hB_2, ↓c_109, ↓c_113, ↓x_is_2, ↓gr_0_9, ↓gr_78_7, ↓x_c, ↓x_il_2, ↓x_ir, ↓st_85, ↓n_95, ↓s_95_0, ↓bk_v, ↓bk_n, ↓bk_r, ↓be_95, ↓pv_i, ↓pv_r, ↓pv_0, ↓pv_l, wz_pk, wz_ti, wz_wz, vI_wz, wz_id, wz_0, List.length_cons, List.length_nil, ↓reduceIte, true_and, and_true, Int.reduceLE, Int.reduceLT, Int.reduceEq, not_true_eq_false, not_false_eq_true, false_or, or_false, true_or, or_true, ite_not, Int.reduceNeg, Int32.reduceToInt, Nat.reduceAdd, Nat.reduceLeDiff, Nat.reduceLT, Nat.reduceEqDiff, Int.reduceAdd, Int.reduceSub, Int.reduceMul, Nat.zero_le, pk_po_ne, pk_po_eq, pk_po_ix, rI, ne_eq, hC.at 3 rfl, hC.wzz 3 rfl, ↓C109 hC, hd]
  by_cases h2 : 0 ≤ d ∧ d < S 3 2
  · rw [if_pos h2]
    refine C113 hC hH hI h2 ?_
    intro M' f
    have e := hP.ok (M' := po M' 85 d 1) (by rw [o_aside, if_pos h2]) ((hC.fxx f rfl).putz (by decide) rfl) ((FC.fxx f rfl).pw (by decide))
    have q4 : d < 6 := by omega
    have q5 : (0 : Int) ≤ d := h2.1
    simp only [↓x_al_0, ↓x_il_1, ↓gd_0_3, ↓gi_hA_2, ↓gi_hB_2, ↓c_109, ↓c_113, ↓x_is_2, ↓gr_0_9, ↓gr_78_7, ↓x_c, ↓x_il_2, ↓x_ir, ↓st_85, ↓n_95, ↓s_95_0, ↓bk_v, ↓bk_n, ↓bk_r, ↓be_95, ↓pv_i, ↓pv_r, ↓pv_0, ↓pv_l, wz_pk, wz_ti, wz_wz, vI_wz, wz_id, wz_0, List.length_cons, List.length_nil, ↓reduceIte, true_and, and_true, Int.reduceLE, Int.reduceLT, Int.reduceEq, not_true_eq_false, not_false_eq_true, false_or, or_false, true_or, or_true, ite_not, Int.reduceNeg, Int32.reduceToInt, Nat.reduceAdd, Nat.reduceLeDiff, Nat.reduceLT, Nat.reduceEqDiff, Int.reduceAdd, Int.reduceSub, Int.reduceMul, Nat.zero_le, pk_po_ne, pk_po_eq, pk_po_ix, rI, ne_eq, hd, q4, q5]
    exact e
  · rw [if_neg h2]
    exact hP.no 0 (by rw [o_aside, if_neg h2]; rfl) hC.ref (FC.rfl.pw (by decide))
end C40
