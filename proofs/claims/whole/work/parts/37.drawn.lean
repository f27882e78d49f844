section C37
variable {Q : MOut → MHp → Prop} {X : Nat × (Nat → Int32)} {s : Bool × Bool} {dh dl t : Nat} {M : Mem} {S : St}
theorem C16 {p x : Int} (hC : RC S M) (hH : hou S) (hI : crs S 78) (hp : 0 ≤ p ∧ p < S 3 0)
    (hQ : ∀ M', (∀ a, a ≠ 104 → M' a = M a) → pk M' 104 0 = (drS S p x (lastMin S) (S 3 1).toNat).2.1 → pk M' 104 1 = (drS S p x (lastMin S) (S 3 1).toNat).2.2.1 → pk M' 104 2 = (drS S p x (lastMin S) (S 3 1).toNat).2.2.2.1 → pk M' 104 3 = (drS S p x (lastMin S) (S 3 1).toNat).2.2.2.2 → Q (.inl none) (mkh X s dh dl t M')) :
    CL 16 [.ref 104, .ref (hA s), .ref 78, vI p, vI x] (mkh X s dh dl t M) Q := by
  have h1 := hH.ng
  have h2 := hH.np
  have hlm : 0 ≤ lastMin S ∧ lastMin S ≤ 9999 := by
    have a1 := c78_acts hI
    have a2 := c78_am hI (S 78 0 - 1)
    unfold lastMin
    split <;> omega
  have key : ∀ M', (∀ a, a ≠ 104 → M' a = M a) → pk M' 104 0 = (drS S p x (lastMin S) (0 : Nat)).2.1 → pk M' 104 1 = (drS S p x (lastMin S) (0 : Nat)).2.2.1 → pk M' 104 2 = (drS S p x (lastMin S) (0 : Nat)).2.2.2.1 → pk M' 104 3 = (drS S p x (lastMin S) (0 : Nat)).2.2.2.2 → ∀ bb, EX 16 (sx 16 33) [.ref 104, .ref (hA s), .ref 78, vI p, vI x, vI (lastMin S), vI (drS S p x (lastMin S) (0 : Nat)).1, vI ((0 : Nat) : Int), bb] [] (mkh X s dh dl t M') Q := by
    refine lp (n := (S 3 1).toNat) (fun n => ∀ M', (∀ a, a ≠ 104 → M' a = M a) → pk M' 104 0 = (drS S p x (lastMin S) n).2.1 → pk M' 104 1 = (drS S p x (lastMin S) n).2.2.1 → pk M' 104 2 = (drS S p x (lastMin S) n).2.2.2.1 → pk M' 104 3 = (drS S p x (lastMin S) n).2.2.2.2 → ∀ bb, EX 16 (sx 16 33) [.ref 104, .ref (hA s), .ref 78, vI p, vI x, vI (lastMin S), vI (drS S p x (lastMin S) n).1, vI n, bb] [] (mkh X s dh dl t M') Q) ?_ ?_
    · intro M' f a0 a1 a2 a3 bb
      replace hC := hC.fr (n := 104) rfl (by decide) f
      have e := hQ M' f a0 a1 a2 a3
      have e1 : S 3 1 ≤ (S 3 1).toNat := by omega
      rw [s_16_33]
      simp (disch := omega) only [↓x_al_0, ↓x_c, ↓pi_104_0, ↓pi_104_1, ↓pi_104_2, ↓pi_104_3, ↓x_al_2, ↓c_5, ↓x_is_5, ↓x_il_4, ↓x_is_6, ↓x_is_7, ↓x_il_7, ↓x_al_1, ↓gi_hA_1, ↓gi_hB_1, ↓x_ge, ↓c_6, ↓x_eq0, ↓c_9, ↓x_go, ↓x_il_5, ↓c_19_hA, ↓x_dup_i, ↓x_dup_r, ↓gi_104_2, ↓x_iadd, ↓x_il_6, ↓x_imul, ↓gr_hA_7, ↓gr_hB_7, ↓x_iushr, ↓x_iand, ↓x_idiv, ↓x_is_8, ↓x_il_8, ↓c_20_hA, ↓gi_104_1, ↓gi_104_0, ↓x_il_3, ↓c_8, ↓gi_104_3, ↓c_21_hA, ↓x_inc_7, ↓x_rt, ↓ld_hA_9, ↓ld_hB_9, ↓n_16, ↓s_16_0, ↓s_16_63, ↓s_16_87, ↓s_16_145, ↓s_16_185, ↓s_16_191, ↓bk_v, ↓bk_n, ↓bk_r, ↓pv_i, ↓pv_r, ↓pv_0, ↓pv_l, wz_pk, wz_ti, wz_wz, vI_wz, wz_id, wz_0, List.length_cons, List.length_nil, ↓reduceIte, true_and, and_true, Int.reduceLE, Int.reduceLT, Int.reduceEq, not_true_eq_false, not_false_eq_true, false_or, or_false, true_or, or_true, ite_not, Int.reduceNeg, Int32.reduceToInt, Nat.reduceAdd, Nat.reduceLeDiff, Nat.reduceLT, Nat.reduceEqDiff, Int.reduceAdd, Int.reduceSub, Int.reduceMul, Nat.zero_le, pk_po_ne, pk_po_eq, pk_po_ix, rI, ne_eq, hC.at 3 rfl, hC.wzz 3 rfl, e1, if_true, e]
    · intro n hn ih M' f a0 a1 a2 a3 bb
      replace hC := hC.fr (n := 104) rfl (by decide) f
      have e1 : ¬ S 3 1 ≤ n := by omega
      have e2 : (n : Int) < 12 := by omega
      have e3 : (0 : Int) ≤ n := by omega
      have hl := listedN_rng (g := n) hI
      have hr := drS_rng (x0 := x) (m := lastMin S) hH hp n (by omega)
      have hw := hH.wor n (by omega) (by omega)
      have hpr := price_rng (x := lcg (drS S p x (lastMin S) n).1) hw.1 hw.2
      have hsh := share_rng hH (g := n) ⟨by omega, by omega⟩ hp (x := S 12 n * (2 + drw (lcg (drS S p x (lastMin S) n).1)) / 8) ⟨by omega, by omega⟩
      simp only [drS] at ih
      generalize hq : drS S p x (lastMin S) n = q at *
      obtain ⟨q1, q2, q3, q4, q5⟩ := q
      simp only at *
      rw [s_16_33]
      by_cases c1 : listedN S n = 0
      · rw [if_pos (Or.inl c1)] at ih
        simp (disch := omega) only [↓x_al_0, ↓x_c, ↓pi_104_0, ↓pi_104_1, ↓pi_104_2, ↓pi_104_3, ↓x_al_2, ↓c_5, ↓x_is_5, ↓x_il_4, ↓x_is_6, ↓x_is_7, ↓x_il_7, ↓x_al_1, ↓gi_hA_1, ↓gi_hB_1, ↓x_ge, ↓c_6, ↓x_eq0, ↓c_9, ↓x_go, ↓x_il_5, ↓c_19_hA, ↓x_dup_i, ↓x_dup_r, ↓gi_104_2, ↓x_iadd, ↓x_il_6, ↓x_imul, ↓gr_hA_7, ↓gr_hB_7, ↓x_iushr, ↓x_iand, ↓x_idiv, ↓x_is_8, ↓x_il_8, ↓c_20_hA, ↓gi_104_1, ↓gi_104_0, ↓x_il_3, ↓c_8, ↓gi_104_3, ↓c_21_hA, ↓x_inc_7, ↓x_rt, ↓ld_hA_9, ↓ld_hB_9, ↓n_16, ↓s_16_0, ↓s_16_63, ↓s_16_87, ↓s_16_145, ↓s_16_185, ↓s_16_191, ↓bk_v, ↓bk_n, ↓bk_r, ↓pv_i, ↓pv_r, ↓pv_0, ↓pv_l, wz_pk, wz_ti, wz_wz, vI_wz, wz_id, wz_0, List.length_cons, List.length_nil, ↓reduceIte, true_and, and_true, Int.reduceLE, Int.reduceLT, Int.reduceEq, not_true_eq_false, not_false_eq_true, false_or, or_false, true_or, or_true, ite_not, Int.reduceNeg, Int32.reduceToInt, Nat.reduceAdd, Nat.reduceLeDiff, Nat.reduceLT, Nat.reduceEqDiff, Int.reduceAdd, Int.reduceSub, Int.reduceMul, Nat.zero_le, pk_po_ne, pk_po_eq, pk_po_ix, rI, ne_eq, hC.at 3 rfl, hC.wzz 3 rfl, e1, if_false, ↓C6 hC hI, c1, if_true]
        exact ih M' f a0 a1 a2 a3 bb
      · have e0 : wz (listedN S n) = listedN S n := wz_id (by omega) (by omega)
        by_cases c2 : gone S n = true
        · rw [if_pos (Or.inr c2)] at ih
          simp (disch := omega) only [↓x_al_0, ↓x_c, ↓pi_104_0, ↓pi_104_1, ↓pi_104_2, ↓pi_104_3, ↓x_al_2, ↓c_5, ↓x_is_5, ↓x_il_4, ↓x_is_6, ↓x_is_7, ↓x_il_7, ↓x_al_1, ↓gi_hA_1, ↓gi_hB_1, ↓x_ge, ↓c_6, ↓x_eq0, ↓c_9, ↓x_go, ↓x_il_5, ↓c_19_hA, ↓x_dup_i, ↓x_dup_r, ↓gi_104_2, ↓x_iadd, ↓x_il_6, ↓x_imul, ↓gr_hA_7, ↓gr_hB_7, ↓x_iushr, ↓x_iand, ↓x_idiv, ↓x_is_8, ↓x_il_8, ↓c_20_hA, ↓gi_104_1, ↓gi_104_0, ↓x_il_3, ↓c_8, ↓gi_104_3, ↓c_21_hA, ↓x_inc_7, ↓x_rt, ↓ld_hA_9, ↓ld_hB_9, ↓n_16, ↓s_16_0, ↓s_16_63, ↓s_16_87, ↓s_16_145, ↓s_16_185, ↓s_16_191, ↓bk_v, ↓bk_n, ↓bk_r, ↓pv_i, ↓pv_r, ↓pv_0, ↓pv_l, wz_pk, wz_ti, wz_wz, vI_wz, wz_id, wz_0, List.length_cons, List.length_nil, ↓reduceIte, true_and, and_true, Int.reduceLE, Int.reduceLT, Int.reduceEq, not_true_eq_false, not_false_eq_true, false_or, or_false, true_or, or_true, ite_not, Int.reduceNeg, Int32.reduceToInt, Nat.reduceAdd, Nat.reduceLeDiff, Nat.reduceLT, Nat.reduceEqDiff, Int.reduceAdd, Int.reduceSub, Int.reduceMul, Nat.zero_le, pk_po_ne, pk_po_eq, pk_po_ix, rI, ne_eq, hC.at 3 rfl, hC.wzz 3 rfl, e1, e2, e3, if_false, ↓C6 hC hI, ↓C9 hC, e0, c1, bi_wz, bi_0, c2, if_true, Bool.true_eq_false]
          exact ih M' f a0 a1 a2 a3 bb
        · rw [if_neg (by simp [c1, c2])] at ih
          have c2' : gone S n = false := by simpa using c2
          by_cases c3 : S 28 n ≤ lastMin S
          · rw [if_pos c3] at ih
            simp (disch := omega) only [↓x_al_0, ↓x_c, ↓pi_104_0, ↓pi_104_1, ↓pi_104_2, ↓pi_104_3, ↓x_al_2, ↓c_5, ↓x_is_5, ↓x_il_4, ↓x_is_6, ↓x_is_7, ↓x_il_7, ↓x_al_1, ↓gi_hA_1, ↓gi_hB_1, ↓x_ge, ↓c_6, ↓x_eq0, ↓c_9, ↓x_go, ↓x_il_5, ↓c_19_hA, ↓x_dup_i, ↓x_dup_r, ↓gi_104_2, ↓x_iadd, ↓x_il_6, ↓x_imul, ↓gr_hA_7, ↓gr_hB_7, ↓x_iushr, ↓x_iand, ↓x_idiv, ↓x_is_8, ↓x_il_8, ↓c_20_hA, ↓gi_104_1, ↓gi_104_0, ↓x_il_3, ↓c_8, ↓gi_104_3, ↓c_21_hA, ↓x_inc_7, ↓x_rt, ↓ld_hA_9, ↓ld_hB_9, ↓n_16, ↓s_16_0, ↓s_16_63, ↓s_16_87, ↓s_16_145, ↓s_16_185, ↓s_16_191, ↓bk_v, ↓bk_n, ↓bk_r, ↓pv_i, ↓pv_r, ↓pv_0, ↓pv_l, wz_pk, wz_ti, wz_wz, vI_wz, wz_id, wz_0, List.length_cons, List.length_nil, ↓reduceIte, true_and, and_true, Int.reduceLE, Int.reduceLT, Int.reduceEq, not_true_eq_false, not_false_eq_true, false_or, or_false, true_or, or_true, ite_not, Int.reduceNeg, Int32.reduceToInt, Nat.reduceAdd, Nat.reduceLeDiff, Nat.reduceLT, Nat.reduceEqDiff, Int.reduceAdd, Int.reduceSub, Int.reduceMul, Nat.zero_le, pk_po_ne, pk_po_eq, pk_po_ix, rI, ne_eq, hC.at 3 rfl, hC.wzz 3 rfl, e1, e2, e3, if_false, ↓C6 hC hI, ↓C9 hC, ↓C19 hC, e0, c1, bi_wz, bi_0, c2', if_true, c3, decide_true, Bool.true_eq_false, a2]
            refine ih _ (po_fr f) ?_ ?_ ?_ ?_ bb <;> simp (disch := omega) only [pk_po_ix, pk_po_eq, a0, a1, a2, a3, wz_id, ne_eq, Int.reduceEq, not_false_eq_true]
          · rw [if_neg c3] at ih
            have e5 : ∀ y, wz (lcg y) = lcg y := fun y => wz_wz
            have e6 : iand (iush (q1 * 1103515245 + 12345) 16) 7 = drw (lcg q1) := by unfold drw lcg iush; rw [oi_wz]
            have e7 : wz (S 12 n * (2 + drw (lcg q1))) = S 12 n * (2 + drw (lcg q1)) := wz_id (by omega) (by omega)
            have e8 : Int.tdiv (S 12 n * (2 + drw (lcg q1))) 8 = S 12 n * (2 + drw (lcg q1)) / 8 := Int.tdiv_eq_ediv_of_nonneg (by omega)
            have e9 : Int.tdiv (S 12 n + 1) 2 = (S 12 n + 1) / 2 := Int.tdiv_eq_ediv_of_nonneg (by omega)
            have e10 : vI (q1 * 1103515245 + 12345) = vI (lcg q1) := vI_wz.symm
            by_cases c4 : S 12 n * (2 + drw (lcg q1)) / 8 < (S 12 n + 1) / 2
            · rw [if_pos c4] at ih
              have c4n : ¬ (S 12 n + 1) / 2 ≤ S 12 n * (2 + drw (lcg q1)) / 8 := by omega
              simp (disch := omega) only [↓x_al_0, ↓x_c, ↓pi_104_0, ↓pi_104_1, ↓pi_104_2, ↓pi_104_3, ↓x_al_2, ↓c_5, ↓x_is_5, ↓x_il_4, ↓x_is_6, ↓x_is_7, ↓x_il_7, ↓x_al_1, ↓gi_hA_1, ↓gi_hB_1, ↓x_ge, ↓c_6, ↓x_eq0, ↓c_9, ↓x_go, ↓x_il_5, ↓c_19_hA, ↓x_dup_i, ↓x_dup_r, ↓gi_104_2, ↓x_iadd, ↓x_il_6, ↓x_imul, ↓gr_hA_7, ↓gr_hB_7, ↓x_iushr, ↓x_iand, ↓x_idiv, ↓x_is_8, ↓x_il_8, ↓c_20_hA, ↓gi_104_1, ↓gi_104_0, ↓x_il_3, ↓c_8, ↓gi_104_3, ↓c_21_hA, ↓x_inc_7, ↓x_rt, ↓ld_hA_9, ↓ld_hB_9, ↓n_16, ↓s_16_0, ↓s_16_63, ↓s_16_87, ↓s_16_145, ↓s_16_185, ↓s_16_191, ↓bk_v, ↓bk_n, ↓bk_r, ↓pv_i, ↓pv_r, ↓pv_0, ↓pv_l, wz_pk, wz_ti, wz_wz, vI_wz, wz_id, wz_0, List.length_cons, List.length_nil, ↓reduceIte, true_and, and_true, Int.reduceLE, Int.reduceLT, Int.reduceEq, not_true_eq_false, not_false_eq_true, false_or, or_false, true_or, or_true, ite_not, Int.reduceNeg, Int32.reduceToInt, Nat.reduceAdd, Nat.reduceLeDiff, Nat.reduceLT, Nat.reduceEqDiff, Int.reduceAdd, Int.reduceSub, Int.reduceMul, Nat.zero_le, pk_po_ne, pk_po_eq, pk_po_ix, rI, ne_eq, hC.at 3 rfl, hC.wzz 3 rfl, hC.at 12 rfl, hC.wzz 12 rfl, e1, e2, e3, if_false, ↓C6 hC hI, ↓C9 hC, ↓C19 hC, ↓C20 hC hH, e0, c1, bi_wz, bi_0, c2', if_true, c3, decide_false, Bool.true_eq_false, a1, e6, e7, e8, e9, c4, c4n, e10]
              refine ih _ (po_fr f) ?_ ?_ ?_ ?_ _ <;> simp (disch := omega) only [pk_po_ix, pk_po_eq, a0, a1, a2, a3, wz_id, ne_eq, Int.reduceEq, not_false_eq_true]
            · rw [if_neg c4] at ih
              have c4' : (S 12 n + 1) / 2 ≤ S 12 n * (2 + drw (lcg q1)) / 8 := by omega
              have hC2 := hC.pw (a := 104) (i := 0) (x := q2 + S 12 n * (2 + drw (lcg q1)) / 8) rfl (by decide)
              simp (disch := omega) only [↓x_al_0, ↓x_c, ↓pi_104_0, ↓pi_104_1, ↓pi_104_2, ↓pi_104_3, ↓x_al_2, ↓c_5, ↓x_is_5, ↓x_il_4, ↓x_is_6, ↓x_is_7, ↓x_il_7, ↓x_al_1, ↓gi_hA_1, ↓gi_hB_1, ↓x_ge, ↓c_6, ↓x_eq0, ↓c_9, ↓x_go, ↓x_il_5, ↓c_19_hA, ↓x_dup_i, ↓x_dup_r, ↓gi_104_2, ↓x_iadd, ↓x_il_6, ↓x_imul, ↓gr_hA_7, ↓gr_hB_7, ↓x_iushr, ↓x_iand, ↓x_idiv, ↓x_is_8, ↓x_il_8, ↓c_20_hA, ↓gi_104_1, ↓gi_104_0, ↓x_il_3, ↓c_8, ↓gi_104_3, ↓c_21_hA, ↓x_inc_7, ↓x_rt, ↓ld_hA_9, ↓ld_hB_9, ↓n_16, ↓s_16_0, ↓s_16_63, ↓s_16_87, ↓s_16_145, ↓s_16_185, ↓s_16_191, ↓bk_v, ↓bk_n, ↓bk_r, ↓pv_i, ↓pv_r, ↓pv_0, ↓pv_l, wz_pk, wz_ti, wz_wz, vI_wz, wz_id, wz_0, List.length_cons, List.length_nil, ↓reduceIte, true_and, and_true, Int.reduceLE, Int.reduceLT, Int.reduceEq, not_true_eq_false, not_false_eq_true, false_or, or_false, true_or, or_true, ite_not, Int.reduceNeg, Int32.reduceToInt, Nat.reduceAdd, Nat.reduceLeDiff, Nat.reduceLT, Nat.reduceEqDiff, Int.reduceAdd, Int.reduceSub, Int.reduceMul, Nat.zero_le, pk_po_ne, pk_po_eq, pk_po_ix, rI, ne_eq, hC.at 3 rfl, hC.wzz 3 rfl, hC.at 12 rfl, hC.wzz 12 rfl, e1, e2, e3, if_false, ↓C6 hC hI, ↓C9 hC, ↓C19 hC, ↓C20 hC hH, e0, c1, bi_wz, bi_0, c2', if_true, c3, decide_false, Bool.true_eq_false, a0, e6, e7, e8, e9, c4, c4', e10, ↓C8 hC2 hI hH, Bool.false_eq_true]
              by_cases c5 : isFor S n p = true
              · rw [if_pos c5] at ih
                simp only [c5, Bool.true_eq_false, if_false]
                rw [C21 hC2 hH ⟨by omega, by omega⟩ hp ⟨by omega, by omega⟩]
                simp (disch := omega) only [↓x_al_0, ↓x_c, ↓pi_104_0, ↓pi_104_1, ↓pi_104_2, ↓pi_104_3, ↓x_al_2, ↓c_5, ↓x_is_5, ↓x_il_4, ↓x_is_6, ↓x_is_7, ↓x_il_7, ↓x_al_1, ↓gi_hA_1, ↓gi_hB_1, ↓x_ge, ↓c_6, ↓x_eq0, ↓c_9, ↓x_go, ↓x_il_5, ↓c_19_hA, ↓x_dup_i, ↓x_dup_r, ↓gi_104_2, ↓x_iadd, ↓x_il_6, ↓x_imul, ↓gr_hA_7, ↓gr_hB_7, ↓x_iushr, ↓x_iand, ↓x_idiv, ↓x_is_8, ↓x_il_8, ↓c_20_hA, ↓gi_104_1, ↓gi_104_0, ↓x_il_3, ↓c_8, ↓gi_104_3, ↓c_21_hA, ↓x_inc_7, ↓x_rt, ↓ld_hA_9, ↓ld_hB_9, ↓n_16, ↓s_16_0, ↓s_16_63, ↓s_16_87, ↓s_16_145, ↓s_16_185, ↓s_16_191, ↓bk_v, ↓bk_n, ↓bk_r, ↓pv_i, ↓pv_r, ↓pv_0, ↓pv_l, wz_pk, wz_ti, wz_wz, vI_wz, wz_id, wz_0, List.length_cons, List.length_nil, ↓reduceIte, true_and, and_true, Int.reduceLE, Int.reduceLT, Int.reduceEq, not_true_eq_false, not_false_eq_true, false_or, or_false, true_or, or_true, ite_not, Int.reduceNeg, Int32.reduceToInt, Nat.reduceAdd, Nat.reduceLeDiff, Nat.reduceLT, Nat.reduceEqDiff, Int.reduceAdd, Int.reduceSub, Int.reduceMul, Nat.zero_le, pk_po_ne, pk_po_eq, pk_po_ix, rI, ne_eq, a3]
                refine ih _ (po_fr (po_fr f)) ?_ ?_ ?_ ?_ _ <;> simp (disch := omega) only [pk_po_ix, pk_po_eq, a0, a1, a2, a3, wz_id, ne_eq, Int.reduceEq, not_false_eq_true]
              · rw [if_neg c5, Int.add_zero] at ih
                have c5' : isFor S n p = false := by simpa using c5
                simp only [c5', if_true]
                refine ih _ (po_fr f) ?_ ?_ ?_ ?_ _ <;> simp (disch := omega) only [pk_po_ix, pk_po_eq, a0, a1, a2, a3, wz_id, ne_eq, Int.reduceEq, not_false_eq_true]
  have hC4 := (((hC.pw (a := 104) (i := 0) (x := 0) rfl (by decide)).pw (a := 104) (i := 1) (x := 0) rfl (by decide)).pw (a := 104) (i := 2) (x := 0) rfl (by decide)).pw (a := 104) (i := 3) (x := 0) rfl (by decide)
  simp only [↓x_al_0, ↓x_c, ↓pi_104_0, ↓pi_104_1, ↓pi_104_2, ↓pi_104_3, ↓x_al_2, ↓c_5, ↓x_is_5, ↓x_il_4, ↓x_is_6, ↓x_is_7, ↓x_il_7, ↓x_al_1, ↓gi_hA_1, ↓gi_hB_1, ↓x_ge, ↓c_6, ↓x_eq0, ↓c_9, ↓x_go, ↓x_il_5, ↓c_19_hA, ↓x_dup_i, ↓x_dup_r, ↓gi_104_2, ↓x_iadd, ↓x_il_6, ↓x_imul, ↓gr_hA_7, ↓gr_hB_7, ↓x_iushr, ↓x_iand, ↓x_idiv, ↓x_is_8, ↓x_il_8, ↓c_20_hA, ↓gi_104_1, ↓gi_104_0, ↓x_il_3, ↓c_8, ↓gi_104_3, ↓c_21_hA, ↓x_inc_7, ↓x_rt, ↓ld_hA_9, ↓ld_hB_9, ↓n_16, ↓s_16_0, ↓s_16_63, ↓s_16_87, ↓s_16_145, ↓s_16_185, ↓s_16_191, ↓bk_v, ↓bk_n, ↓bk_r, ↓pv_i, ↓pv_r, ↓pv_0, ↓pv_l, wz_pk, wz_ti, wz_wz, vI_wz, wz_id, wz_0, List.length_cons, List.length_nil, ↓reduceIte, true_and, and_true, Int.reduceLE, Int.reduceLT, Int.reduceEq, not_true_eq_false, not_false_eq_true, false_or, or_false, true_or, or_true, ite_not, Int.reduceNeg, Int32.reduceToInt, Nat.reduceAdd, Nat.reduceLeDiff, Nat.reduceLT, Nat.reduceEqDiff, Int.reduceAdd, Int.reduceSub, Int.reduceMul, Nat.zero_le, pk_po_ne, pk_po_eq, pk_po_ix, rI, ne_eq, ↓C5 hC4 hI]
  refine key _ (po_fr (po_fr (po_fr (po_fr (fun _ _ => rfl))))) ?_ ?_ ?_ ?_ .null <;> simp (disch := omega) only [pk_po_ix, pk_po_eq, wz_0, ne_eq, Int.reduceEq, not_false_eq_true, drS]
theorem K103 {p x w : Int} (hC : RC S M) (hH : hou S) (hI : crs S 78) (hp : wz p = p) (hw : wz w = w) (hP : PC X s dh dl t M Q (o_drawn S p x w)) : CL 103 [.ref 0, vI p, vI x, vI w] (mkh X s dh dl t M) Q := by
  simp only [↓x_al_0, ↓x_il_1, ↓gd_0_3, ↓gi_hA_0, ↓gi_hB_0, ↓c_109, ↓x_il_3, ↓x_c, ↓c_110, ↓gr_0_16, ↓gr_0_9, ↓x_il_2, ↓c_16, ↓w_7, ↓gi_104_0, ↓x_ir, ↓gi_104_1, ↓gi_104_2, ↓gi_104_3, ↓n_103, ↓s_103_0, ↓s_103_64, ↓s_103_72, ↓s_103_80, ↓s_103_88, ↓bk_v, ↓bk_n, ↓bk_r, ↓be_103, ↓pv_i, ↓pv_r, ↓pv_0, ↓pv_l, wz_pk, wz_ti, wz_wz, vI_wz, wz_id, wz_0, List.length_cons, List.length_nil, ↓reduceIte, true_and, and_true, Int.reduceLE, Int.reduceLT, Int.reduceEq, not_true_eq_false, not_false_eq_true, false_or, or_false, true_or, or_true, ite_not, Int.reduceNeg, Int32.reduceToInt, Nat.reduceAdd, Nat.reduceLeDiff, Nat.reduceLT, Nat.reduceEqDiff, Int.reduceAdd, Int.reduceSub, Int.reduceMul, Nat.zero_le, pk_po_ne, pk_po_eq, pk_po_ix, rI, ne_eq, hC.at 3 rfl, hC.wzz 3 rfl, ↓C109 hC, ↓C110 hC, hp, hw]
  by_cases h2 : 0 ≤ p ∧ p < S 3 0
  · rw [if_pos h2]
    by_cases h3 : 0 ≤ w ∧ w ≤ 3
    · rw [if_pos h3]
      refine C16 hC hH hI h2 ?_
      intro M' f a0 a1 a2 a3
      have e := hP.ok (M' := M') (by rw [o_drawn, if_pos h2, if_pos h3]) (hC.fr (n := 104) rfl (by decide) f) (FC.fr (by decide) f)
      simp only [↓x_al_0, ↓x_il_1, ↓gd_0_3, ↓gi_hA_0, ↓gi_hB_0, ↓c_109, ↓x_il_3, ↓x_c, ↓c_110, ↓gr_0_16, ↓gr_0_9, ↓x_il_2, ↓c_16, ↓w_7, ↓gi_104_0, ↓x_ir, ↓gi_104_1, ↓gi_104_2, ↓gi_104_3, ↓n_103, ↓s_103_0, ↓s_103_64, ↓s_103_72, ↓s_103_80, ↓s_103_88, ↓bk_v, ↓bk_n, ↓bk_r, ↓be_103, ↓pv_i, ↓pv_r, ↓pv_0, ↓pv_l, wz_pk, wz_ti, wz_wz, vI_wz, wz_id, wz_0, List.length_cons, List.length_nil, ↓reduceIte, true_and, and_true, Int.reduceLE, Int.reduceLT, Int.reduceEq, not_true_eq_false, not_false_eq_true, false_or, or_false, true_or, or_true, ite_not, Int.reduceNeg, Int32.reduceToInt, Nat.reduceAdd, Nat.reduceLeDiff, Nat.reduceLT, Nat.reduceEqDiff, Int.reduceAdd, Int.reduceSub, Int.reduceMul, Nat.zero_le, pk_po_ne, pk_po_eq, pk_po_ix, rI, ne_eq, hw, a0, a1, a2, a3]
      grind
    · rw [if_neg h3]
      exact hP.no 1 (by rw [o_drawn, if_pos h2, if_neg h3]; rfl) hC.ref (FC.rfl.pw (by decide))
  · rw [if_neg h2]
    exact hP.no 0 (by rw [o_drawn, if_neg h2]; rfl) hC.ref (FC.rfl.pw (by decide))
end C37
