section C38
variable {Q : MOut → MHp → Prop} {X : Nat × (Nat → Int32)} {s : Bool × Bool} {dh dl t : Nat} {M : Mem} {S : St}
theorem C25b {n w m : Int} (hn : wz n = n) (hw : wz w = w) (hm : wz m = m) : CL 25 [.ref (hA s), vI n, vI w, vI m] (mkh X s dh dl t M) Q ↔ Q (rI (snr n w m)) (mkh X s dh dl t M) := by
  rw [C25, hn, hw, hm]
  rfl
theorem C24 {p g m : Int} (hC : RC S M) (hH : hou S) (hp : 0 ≤ p ∧ p < S 3 0) (hg : 0 ≤ g ∧ g < S 3 1) (hm : 0 ≤ m ∧ m ≤ 9999) : CL 24 [.ref (hA s), vI p, vI g, vI m] (mkh X s dh dl t M) Q ↔ Q (rI (newsD S p g m (S 3 2).toNat)) (mkh X s dh dl t M) := by
  have h1 := hH.np
  have h2 := hH.ng
  have h3 := hH.nd
  have b1 := hH.ill p hp.1 hp.2
  have b2 := hH.said g hg.1 hg.2
  have b3 := hH.prf g hg.1 hg.2
  have e1 : Int.tdiv m 60 = m / 60 := Int.tdiv_eq_ediv_of_nonneg hm.1
  have w0 : wz m = m := wz_id (by omega) (by omega)
  have w1 : wz ((m / 60 + 1) * 60) = (m / 60 + 1) * 60 := wz_id (by omega) (by omega)
  have r1 : 0 ≤ snr ((m / 60 + 1) * 60) (S 10 p) m ∧ snr ((m / 60 + 1) * 60) (S 10 p) m ≤ 20000 := by unfold snr; split <;> omega
  have r2 : 0 ≤ snr (snr ((m / 60 + 1) * 60) (S 10 p) m) (S 27 g) m ∧ snr (snr ((m / 60 + 1) * 60) (S 10 p) m) (S 27 g) m ≤ 20000 := by generalize snr ((m / 60 + 1) * 60) (S 10 p) m = q at *; unfold snr; split <;> omega
  have w2 := wz_id (x := snr ((m / 60 + 1) * 60) (S 10 p) m) (by omega) (by omega)
  have w3 := wz_id (x := snr (snr ((m / 60 + 1) * 60) (S 10 p) m) (S 27 g) m) (by omega) (by omega)
  have key : EX 24 (sx 24 59) [.ref (hA s), vI p, vI g, vI m, vI (newsD S p g m (0 : Nat)), vI ((0 : Nat) : Int)] [] (mkh X s dh dl t M) Q ↔ Q (rI (newsD S p g m (S 3 2).toNat)) (mkh X s dh dl t M) := by
    refine lp (n := (S 3 2).toNat) (fun n => EX 24 (sx 24 59) [.ref (hA s), vI p, vI g, vI m, vI (newsD S p g m n), vI n] [] (mkh X s dh dl t M) Q ↔ _) ?_ ?_
    · rw [s_24_59]
      have e2 : S 3 2 ≤ (S 3 2).toNat := by omega
      simp (disch := omega) only [↓x_il_3, ↓x_c, ↓x_idiv, ↓x_iadd, ↓x_imul, ↓x_is_4, ↓x_al_0, ↓x_il_4, ↓gr_hA_5, ↓gr_hB_5, ↓x_il_1, ↓c_25_hA, ↓gr_hA_10, ↓gr_hB_10, ↓x_il_2, ↓gr_hA_11, ↓gr_hB_11, ↓x_is_5, ↓x_il_5, ↓gi_hA_2, ↓gi_hB_2, ↓x_ge, ↓gr_hA_12, ↓gr_hB_12, ↓x_ne, ↓gr_hA_14, ↓gr_hB_14, ↓x_inc_5, ↓x_go, ↓x_ir, ↓ld_hA_24, ↓ld_hA_25, ↓ld_hA_26, ↓ld_hA_28, ↓ld_hA_7, ↓ld_hB_24, ↓ld_hB_25, ↓ld_hB_26, ↓ld_hB_28, ↓ld_hB_7, ↓n_24, ↓s_24_0, ↓s_24_95, ↓s_24_101, ↓bk_v, ↓bk_n, ↓bk_r, ↓pv_i, ↓pv_r, ↓pv_0, ↓pv_l, wz_pk, wz_ti, wz_wz, vI_wz, wz_id, wz_0, List.length_cons, List.length_nil, ↓reduceIte, true_and, and_true, Int.reduceLE, Int.reduceLT, Int.reduceEq, not_true_eq_false, not_false_eq_true, false_or, or_false, true_or, or_true, ite_not, Int.reduceNeg, Int32.reduceToInt, Nat.reduceAdd, Nat.reduceLeDiff, Nat.reduceLT, Nat.reduceEqDiff, Int.reduceAdd, Int.reduceSub, Int.reduceMul, Nat.zero_le, pk_po_ne, pk_po_eq, pk_po_ix, rI, ne_eq, hC.at 3 rfl, hC.wzz 3 rfl, e2, if_true]
    · intro n hn ih
      have e2 : ¬ S 3 2 ≤ n := by omega
      have e3 : (n : Int) < 6 := by omega
      have e4 : (0 : Int) ≤ n := by omega
      have b4 := newsD_b (S := S) (p := p) (g := g) (t := m) n
      have b5 := hH.writ n (by omega) (by omega)
      have w4 := wz_id (x := newsD S p g m n) (by omega) (by omega)
      have w5 := wz_id (x := S 31 n) (by omega) (by omega)
      rw [s_24_59]
      simp (disch := omega) only [↓x_il_3, ↓x_c, ↓x_idiv, ↓x_iadd, ↓x_imul, ↓x_is_4, ↓x_al_0, ↓x_il_4, ↓gr_hA_5, ↓gr_hB_5, ↓x_il_1, ↓c_25_hA, ↓gr_hA_10, ↓gr_hB_10, ↓x_il_2, ↓gr_hA_11, ↓gr_hB_11, ↓x_is_5, ↓x_il_5, ↓gi_hA_2, ↓gi_hB_2, ↓x_ge, ↓gr_hA_12, ↓gr_hB_12, ↓x_ne, ↓gr_hA_14, ↓gr_hB_14, ↓x_inc_5, ↓x_go, ↓x_ir, ↓ld_hA_24, ↓ld_hA_25, ↓ld_hA_26, ↓ld_hA_28, ↓ld_hA_7, ↓ld_hB_24, ↓ld_hB_25, ↓ld_hB_26, ↓ld_hB_28, ↓ld_hB_7, ↓n_24, ↓s_24_0, ↓s_24_95, ↓s_24_101, ↓bk_v, ↓bk_n, ↓bk_r, ↓pv_i, ↓pv_r, ↓pv_0, ↓pv_l, wz_pk, wz_ti, wz_wz, vI_wz, wz_id, wz_0, List.length_cons, List.length_nil, ↓reduceIte, true_and, and_true, Int.reduceLE, Int.reduceLT, Int.reduceEq, not_true_eq_false, not_false_eq_true, false_or, or_false, true_or, or_true, ite_not, Int.reduceNeg, Int32.reduceToInt, Nat.reduceAdd, Nat.reduceLeDiff, Nat.reduceLT, Nat.reduceEqDiff, Int.reduceAdd, Int.reduceSub, Int.reduceMul, Nat.zero_le, pk_po_ne, pk_po_eq, pk_po_ix, rI, ne_eq, hC.at 3 rfl, hC.wzz 3 rfl, hC.at 29 rfl, hC.wzz 29 rfl, hC.at 31 rfl, hC.wzz 31 rfl, e2, e3, e4, if_false, ↓C25b w4 w5 w0]
      simp only [newsD] at ih
      grind [rI]
  simp (disch := omega) only [↓x_il_3, ↓x_c, ↓x_idiv, ↓x_iadd, ↓x_imul, ↓x_is_4, ↓x_al_0, ↓x_il_4, ↓gr_hA_5, ↓gr_hB_5, ↓x_il_1, ↓c_25_hA, ↓gr_hA_10, ↓gr_hB_10, ↓x_il_2, ↓gr_hA_11, ↓gr_hB_11, ↓x_is_5, ↓x_il_5, ↓gi_hA_2, ↓gi_hB_2, ↓x_ge, ↓gr_hA_12, ↓gr_hB_12, ↓x_ne, ↓gr_hA_14, ↓gr_hB_14, ↓x_inc_5, ↓x_go, ↓x_ir, ↓ld_hA_24, ↓ld_hA_25, ↓ld_hA_26, ↓ld_hA_28, ↓ld_hA_7, ↓ld_hB_24, ↓ld_hB_25, ↓ld_hB_26, ↓ld_hB_28, ↓ld_hB_7, ↓n_24, ↓s_24_0, ↓s_24_95, ↓s_24_101, ↓bk_v, ↓bk_n, ↓bk_r, ↓pv_i, ↓pv_r, ↓pv_0, ↓pv_l, wz_pk, wz_ti, wz_wz, vI_wz, wz_id, wz_0, List.length_cons, List.length_nil, ↓reduceIte, true_and, and_true, Int.reduceLE, Int.reduceLT, Int.reduceEq, not_true_eq_false, not_false_eq_true, false_or, or_false, true_or, or_true, ite_not, Int.reduceNeg, Int32.reduceToInt, Nat.reduceAdd, Nat.reduceLeDiff, Nat.reduceLT, Nat.reduceEqDiff, Int.reduceAdd, Int.reduceSub, Int.reduceMul, Nat.zero_le, pk_po_ne, pk_po_eq, pk_po_ix, rI, ne_eq, hC.at 10 rfl, hC.wzz 10 rfl, hC.at 27 rfl, hC.wzz 27 rfl, hC.at 28 rfl, hC.wzz 28 rfl, e1, ↓C25b w1 (hC.wzz 10 rfl p) w0, ↓C25b w2 (hC.wzz 27 rfl g) w0, ↓C25b w3 (hC.wzz 28 rfl g) w0]
  have k2 : newsD S p g m 0 = snr (snr (snr ((m / 60 + 1) * 60) (S 10 p) m) (S 27 g) m) (S 28 g) m := rfl
  rw [k2] at key
  simp only [rI, Int.ofNat_zero] at key
  grind
theorem K102 {d g m o : Int} (hC : RC S M) (hH : hou S) (hL : wfl S) (hd : wz d = d) (hg : wz g = g) (hm : wz m = m) (ho : wz o = o) (hP : PC X s dh dl t M Q (o_when S d g m o)) : CL 102 [.ref 0, vI d, vI g, vI m, vI o] (mkh X s dh dl t M) Q := by
  have n1 := hH.nd
  simp only [↓x_al_0, ↓x_il_1, ↓x_il_2, ↓x_il_3, ↓x_il_4, ↓c_111, ↓x_is_5, ↓x_c, ↓x_is_6, ↓x_il_6, ↓x_gt, ↓x_il_5, ↓c_114, ↓x_ne, ↓x_ir, ↓gd_0_3, ↓gr_hA_12, ↓gr_hB_12, ↓c_24_hA, ↓x_inc_6, ↓x_go, ↓ld_hA_26, ↓ld_hB_26, ↓n_102, ↓s_102_0, ↓s_102_48, ↓s_102_75, ↓bk_v, ↓bk_n, ↓bk_r, ↓be_102, ↓pv_i, ↓pv_r, ↓pv_0, ↓pv_l, wz_pk, wz_ti, wz_wz, vI_wz, wz_id, wz_0, List.length_cons, List.length_nil, ↓reduceIte, true_and, and_true, Int.reduceLE, Int.reduceLT, Int.reduceEq, not_true_eq_false, not_false_eq_true, false_or, or_false, true_or, or_true, ite_not, Int.reduceNeg, Int32.reduceToInt, Nat.reduceAdd, Nat.reduceLeDiff, Nat.reduceLT, Nat.reduceEqDiff, Int.reduceAdd, Int.reduceSub, Int.reduceMul, Nat.zero_le, pk_po_ne, pk_po_eq, pk_po_ix, rI, ne_eq, ↓C111 hC hd hg hm ho]
  by_cases h1 : (0 ≤ d ∧ d < S 3 2) ∧ (0 ≤ g ∧ g < S 3 1)
  · rw [if_pos h1]
    by_cases h2 : (0 ≤ m ∧ m ≤ 9999) ∧ (0 ≤ o ∧ o ≤ 2)
    · rw [if_pos h2]
      have hdb := hH.dbt d h1.1.1 h1.1.2
      have key : ∀ M1 u, (∀ a, a ≠ 68 → a ≠ 91 → M1 a = M a) → ((0 : Nat) : Int) ≤ u → u ≤ 10020 → whenF S d g o (10000 - u).toNat u = whenF S d g o (10000 - m).toNat m → EX 102 (sx 102 15) [.ref 0, vI d, vI g, vI m, vI o, vI u, vI ((0 : Nat) : Int)] [] (mkh X s dh dl t M1) Q := by
        refine lp (n := 10000) (fun n => ∀ M1 u, (∀ a, a ≠ 68 → a ≠ 91 → M1 a = M a) → (n : Int) ≤ u → u ≤ 10020 → whenF S d g o (10000 - u).toNat u = whenF S d g o (10000 - m).toNat m → EX 102 (sx 102 15) [.ref 0, vI d, vI g, vI m, vI o, vI u, vI n] [] (mkh X s dh dl t M1) Q) ?_ ?_
        · intro M1 u f h3 h4 h5
          rw [show (10000 - u).toNat = 0 by omega, whenF] at h5
          have e := hP.ok (M' := M1) (by rw [o_when, tkR, if_pos h1, if_pos h2]) (hC.fr2 (n := 68) (m := 91) rfl (by decide) rfl (by decide) f) (FC.fr2 (by decide) (by decide) f)
          rw [← h5] at e
          have e1 : (9999 : Int) < ((10000 : Nat) : Int) := by omega
          rw [s_102_15]
          simp (disch := omega) only [↓x_al_0, ↓x_il_1, ↓x_il_2, ↓x_il_3, ↓x_il_4, ↓c_111, ↓x_is_5, ↓x_c, ↓x_is_6, ↓x_il_6, ↓x_gt, ↓x_il_5, ↓c_114, ↓x_ne, ↓x_ir, ↓gd_0_3, ↓gr_hA_12, ↓gr_hB_12, ↓c_24_hA, ↓x_inc_6, ↓x_go, ↓ld_hA_26, ↓ld_hB_26, ↓n_102, ↓s_102_0, ↓s_102_48, ↓s_102_75, ↓bk_v, ↓bk_n, ↓bk_r, ↓be_102, ↓pv_i, ↓pv_r, ↓pv_0, ↓pv_l, wz_pk, wz_ti, wz_wz, vI_wz, wz_id, wz_0, List.length_cons, List.length_nil, ↓reduceIte, true_and, and_true, Int.reduceLE, Int.reduceLT, Int.reduceEq, not_true_eq_false, not_false_eq_true, false_or, or_false, true_or, or_true, ite_not, Int.reduceNeg, Int32.reduceToInt, Nat.reduceAdd, Nat.reduceLeDiff, Nat.reduceLT, Nat.reduceEqDiff, Int.reduceAdd, Int.reduceSub, Int.reduceMul, Nat.zero_le, pk_po_ne, pk_po_eq, pk_po_ix, rI, ne_eq, e1, if_true]
          exact e
        · intro n hn ih M1 u f h3 h4 h5
          have hC1 := hC.fr2 (n := 68) (m := 91) rfl (by decide) rfl (by decide) f
          have hF1 := FC.fr2 (n := 68) (m := 91) (by decide) (by decide) f
          have e1 : ¬ (9999 : Int) < n := by omega
          rw [s_102_15]
          by_cases c1 : 9999 < u
          · rw [show (10000 - u).toNat = 0 by omega, whenF] at h5
            have e := hP.ok (M' := M1) (by rw [o_when, tkR, if_pos h1, if_pos h2]) hC1 hF1
            rw [← h5] at e
            simp (disch := omega) only [↓x_al_0, ↓x_il_1, ↓x_il_2, ↓x_il_3, ↓x_il_4, ↓c_111, ↓x_is_5, ↓x_c, ↓x_is_6, ↓x_il_6, ↓x_gt, ↓x_il_5, ↓c_114, ↓x_ne, ↓x_ir, ↓gd_0_3, ↓gr_hA_12, ↓gr_hB_12, ↓c_24_hA, ↓x_inc_6, ↓x_go, ↓ld_hA_26, ↓ld_hB_26, ↓n_102, ↓s_102_0, ↓s_102_48, ↓s_102_75, ↓bk_v, ↓bk_n, ↓bk_r, ↓be_102, ↓pv_i, ↓pv_r, ↓pv_0, ↓pv_l, wz_pk, wz_ti, wz_wz, vI_wz, wz_id, wz_0, List.length_cons, List.length_nil, ↓reduceIte, true_and, and_true, Int.reduceLE, Int.reduceLT, Int.reduceEq, not_true_eq_false, not_false_eq_true, false_or, or_false, true_or, or_true, ite_not, Int.reduceNeg, Int32.reduceToInt, Nat.reduceAdd, Nat.reduceLeDiff, Nat.reduceLT, Nat.reduceEqDiff, Int.reduceAdd, Int.reduceSub, Int.reduceMul, Nat.zero_le, pk_po_ne, pk_po_eq, pk_po_ix, rI, ne_eq, e1, if_false, c1, if_true]
            exact e
          · simp (disch := omega) only [↓x_al_0, ↓x_il_1, ↓x_il_2, ↓x_il_3, ↓x_il_4, ↓c_111, ↓x_is_5, ↓x_c, ↓x_is_6, ↓x_il_6, ↓x_gt, ↓x_il_5, ↓c_114, ↓x_ne, ↓x_ir, ↓gd_0_3, ↓gr_hA_12, ↓gr_hB_12, ↓c_24_hA, ↓x_inc_6, ↓x_go, ↓ld_hA_26, ↓ld_hB_26, ↓n_102, ↓s_102_0, ↓s_102_48, ↓s_102_75, ↓bk_v, ↓bk_n, ↓bk_r, ↓be_102, ↓pv_i, ↓pv_r, ↓pv_0, ↓pv_l, wz_pk, wz_ti, wz_wz, vI_wz, wz_id, wz_0, List.length_cons, List.length_nil, ↓reduceIte, true_and, and_true, Int.reduceLE, Int.reduceLT, Int.reduceEq, not_true_eq_false, not_false_eq_true, false_or, or_false, true_or, or_true, ite_not, Int.reduceNeg, Int32.reduceToInt, Nat.reduceAdd, Nat.reduceLeDiff, Nat.reduceLT, Nat.reduceEqDiff, Int.reduceAdd, Int.reduceSub, Int.reduceMul, Nat.zero_le, pk_po_ne, pk_po_eq, pk_po_ix, rI, ne_eq, e1, if_false, c1]
            refine C114 hC1 hH hL h1.1 h1.2 ⟨by omega, by omega⟩ h2.2 ?_
            intro M2 f2
            have f3 : ∀ a, a ≠ 68 → a ≠ 91 → M2 a = M a := fun a a1 a2 => by rw [f2 a a1 a2, f a a1 a2]
            have hC2 := hC.fr2 (n := 68) (m := 91) rfl (by decide) rfl (by decide) f3
            have hF2 := FC.fr2 (n := 68) (m := 91) (by decide) (by decide) f3
            have hb := barOf_rng (f := fct S d g u o u) hL
            have eb : wz (barred S d g u o) = barred S d g u o := wz_id (by unfold barred; omega) (by unfold barred; omega)
            by_cases c2 : barred S d g u o = -1
            · rw [show (10000 - u).toNat = (9999 - u).toNat + 1 by omega, whenF, if_pos c2] at h5
              have e := hP.ok (M' := M2) (by rw [o_when, tkR, if_pos h1, if_pos h2]) hC2 hF2
              rw [← h5] at e
              simp (disch := omega) only [↓x_al_0, ↓x_il_1, ↓x_il_2, ↓x_il_3, ↓x_il_4, ↓c_111, ↓x_is_5, ↓x_c, ↓x_is_6, ↓x_il_6, ↓x_gt, ↓x_il_5, ↓c_114, ↓x_ne, ↓x_ir, ↓gd_0_3, ↓gr_hA_12, ↓gr_hB_12, ↓c_24_hA, ↓x_inc_6, ↓x_go, ↓ld_hA_26, ↓ld_hB_26, ↓n_102, ↓s_102_0, ↓s_102_48, ↓s_102_75, ↓bk_v, ↓bk_n, ↓bk_r, ↓be_102, ↓pv_i, ↓pv_r, ↓pv_0, ↓pv_l, wz_pk, wz_ti, wz_wz, vI_wz, wz_id, wz_0, List.length_cons, List.length_nil, ↓reduceIte, true_and, and_true, Int.reduceLE, Int.reduceLT, Int.reduceEq, not_true_eq_false, not_false_eq_true, false_or, or_false, true_or, or_true, ite_not, Int.reduceNeg, Int32.reduceToInt, Nat.reduceAdd, Nat.reduceLeDiff, Nat.reduceLT, Nat.reduceEqDiff, Int.reduceAdd, Int.reduceSub, Int.reduceMul, Nat.zero_le, pk_po_ne, pk_po_eq, pk_po_ix, rI, ne_eq, eb, c2, if_true]
              exact e
            · have nb := newsD_b (S := S) (p := S 29 d) (g := g) (t := u) (S 3 2).toNat
              have bs : ∀ v, u ≤ v → v < newsD S (S 29 d) g u (S 3 2).toNat → ¬ barred S d g v o = -1 := fun v a b => by rw [barred_same hL a b]; exact c2
              have d6 : (0 : Int) ≤ d ∧ d < 6 := by omega
              simp (disch := omega) only [↓x_al_0, ↓x_il_1, ↓x_il_2, ↓x_il_3, ↓x_il_4, ↓c_111, ↓x_is_5, ↓x_c, ↓x_is_6, ↓x_il_6, ↓x_gt, ↓x_il_5, ↓c_114, ↓x_ne, ↓x_ir, ↓gd_0_3, ↓gr_hA_12, ↓gr_hB_12, ↓c_24_hA, ↓x_inc_6, ↓x_go, ↓ld_hA_26, ↓ld_hB_26, ↓n_102, ↓s_102_0, ↓s_102_48, ↓s_102_75, ↓bk_v, ↓bk_n, ↓bk_r, ↓be_102, ↓pv_i, ↓pv_r, ↓pv_0, ↓pv_l, wz_pk, wz_ti, wz_wz, vI_wz, wz_id, wz_0, List.length_cons, List.length_nil, ↓reduceIte, true_and, and_true, Int.reduceLE, Int.reduceLT, Int.reduceEq, not_true_eq_false, not_false_eq_true, false_or, or_false, true_or, or_true, ite_not, Int.reduceNeg, Int32.reduceToInt, Nat.reduceAdd, Nat.reduceLeDiff, Nat.reduceLT, Nat.reduceEqDiff, Int.reduceAdd, Int.reduceSub, Int.reduceMul, Nat.zero_le, pk_po_ne, pk_po_eq, pk_po_ix, rI, ne_eq, eb, c2, if_false, hC2.at 29 rfl, d6, and_self]
              rw [C24 hC2 hH hdb h1.2 ⟨by omega, by omega⟩]
              simp (disch := omega) only [↓x_al_0, ↓x_il_1, ↓x_il_2, ↓x_il_3, ↓x_il_4, ↓c_111, ↓x_is_5, ↓x_c, ↓x_is_6, ↓x_il_6, ↓x_gt, ↓x_il_5, ↓c_114, ↓x_ne, ↓x_ir, ↓gd_0_3, ↓gr_hA_12, ↓gr_hB_12, ↓c_24_hA, ↓x_inc_6, ↓x_go, ↓ld_hA_26, ↓ld_hB_26, ↓n_102, ↓s_102_0, ↓s_102_48, ↓s_102_75, ↓bk_v, ↓bk_n, ↓bk_r, ↓be_102, ↓pv_i, ↓pv_r, ↓pv_0, ↓pv_l, wz_pk, wz_ti, wz_wz, vI_wz, wz_id, wz_0, List.length_cons, List.length_nil, ↓reduceIte, true_and, and_true, Int.reduceLE, Int.reduceLT, Int.reduceEq, not_true_eq_false, not_false_eq_true, false_or, or_false, true_or, or_true, ite_not, Int.reduceNeg, Int32.reduceToInt, Nat.reduceAdd, Nat.reduceLeDiff, Nat.reduceLT, Nat.reduceEqDiff, Int.reduceAdd, Int.reduceSub, Int.reduceMul, Nat.zero_le, pk_po_ne, pk_po_eq, pk_po_ix, rI, ne_eq]
              have ih2 := ih M2 (newsD S (S 29 d) g u (S 3 2).toNat) f3 (by omega) (by omega) ?_
              · exact ih2
              · rw [← h5]
                by_cases c3 : newsD S (S 29 d) g u (S 3 2).toNat ≤ 10000
                · rw [whenF_skip (10000 - u).toNat u (newsD S (S 29 d) g u (S 3 2).toNat) (by omega) (by omega) bs]
                  congr 1
                  omega
                · rw [show (10000 - newsD S (S 29 d) g u (S 3 2).toNat).toNat = 0 by omega, whenF, whenF_none (10000 - u).toNat u (fun v a b => bs v a (by omega))]
      have key := key M m (fun _ _ _ => rfl) (by omega) (by omega) rfl
      exact key
    · rw [if_neg h2]
      exact hP.no 1 (by rw [o_when, tkR, if_pos h1, if_neg h2]; rfl) hC.ref (FC.rfl.pw (by decide))
  · rw [if_neg h1]
    exact hP.no 0 (by rw [o_when, tkR, if_neg h1]; rfl) hC.ref (FC.rfl.pw (by decide))
end C38
