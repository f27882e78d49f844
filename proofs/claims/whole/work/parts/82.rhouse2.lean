section R82
variable {Q : MOut → MHp → Prop} {X : Nat × (Nat → Int32)} {s : Bool × Bool} {dh dl t : Nat} {M : Mem} {S : St} {p n x : Int}
theorem kc_pos {q : Int} {m : Bool} (hw : ¬ (isW S q (we S n q) (P_txt 1) = true ∨ isW S q (we S n q) (P_txt 4) = true ∨ isW S q (we S n q) (P_txt 2) = true ∨ isW S q (we S n q) (P_txt 5) = true ∨ isW S q (we S n q) (P_txt 6) = true ∨ isW S q (we S n q) (P_txt 3) = true ∨ isW S q (we S n q) (P_txt 7) = true ∨ isW S q (we S n q) (P_txt 8) = true)) : k_clause S n m q (we S n q) = (1, q, S) := by
  unfold k_clause
  grind
theorem R142l {M1 : Mem} {S1 : St} (R : K3)
    (hd : ∀ y S2 M2, R = (0, y, S2) → RN S2 M2 → nho S2 → hag S1 S2 → NF M1 M2 → pk M2 142 5 = -1 → ∀ a b c, EX 142 (sx 142 215) [.ref 142, vI n, a, b, c] [] (mkh X s dh dl t M2) Q)
    (hf : ∀ k y S2 M2, ¬ k = 0 → R = (k, y, S2) → hag S1 S2 → NF M1 M2 → pk M2 142 5 = y → pk M2 142 6 = k → ¬ y = -1 → ∀ a b c, EX 142 (sx 142 215) [.ref 142, vI n, a, b, c] [] (mkh X s dh dl t M2) Q) :
    ∀ (k : Nat) (c p : Int) (S : St) (M : Mem), c + k = 61 → 0 ≤ c → c ≤ 60 → 0 ≤ p → p ≤ n → TR S n M → RN S M → nho S → hag S1 S → NF M1 M → pk M 142 5 = -1 → k_all n k c p S = R → ∀ a b, EX 142 (sx 142 75) [.ref 142, vI n, vI c, a, b] [] (mkh X s dh dl t (ra M p)) Q := by
  intro k
  induction k with
  | zero => intro c p S M h1 h2 h3; omega
  | succ k ih =>
    intro c p S M e1 e2 e3 h0 h1 hT hN hH hG hF hb hR a b
    have n6 := hT.2.2
    have hs := sk_rng (S := S) h1
    have hfi : ∀ y, pk (ra M y) 142 5 = -1 := fun y => by rw [ra_x (by decide)]; exact hb
    simp only [k_all] at hR
    rw [s_142_75]
    by_cases c1 : n ≤ sk S n p
    · rw [if_pos c1] at hR
      have c2 : ¬ sk S n p < n := by omega
      have z := hd _ S (ra M (sk S n p)) hR.symm (by
        unfold RN at *
        simp only [ra_x (show (18 : Int) ≠ 4 by decide), ra_x (show (19 : Int) ≠ 4 by decide), ra_x (show (20 : Int) ≠ 4 by decide), ra_n (show 145 ≠ 142 by decide), ra_n (show 146 ≠ 142 by decide), ra_n (show 147 ≠ 142 by decide), ra_n (show 148 ≠ 142 by decide)]
        exact hN) hH hG hF.ra (hfi _)
      simp (disch := omega) only [↓x_al_0, ↓x_c, ↓pi_142_0, ↓x_il_1, ↓x_lt0, ↓gi_142_2, ↓x_gt, ↓x_go, ↓c_119, ↓x_ne0, ↓x_ir, ↓c_134, ↓pi_142_18, ↓pi_142_19, ↓pi_142_20, ↓x_is_2, ↓x_il_2, ↓x_ge, ↓gr_142_13, ↓x_inc_2, ↓c_123, ↓x_eq0, ↓c_133, ↓c_128, ↓x_ls_3, ↓x_ll_3, ↓c_141, ↓gi_142_4, ↓c_124, ↓x_eq, ↓x_str, ↓c_129, ↓x_lcw0, ↓x_lcw1, ↓gi_142_18, ↓gi_142_19, ↓gi_142_20, ↓x_ne, ↓c_130, ↓c_139, ↓c_132, ↓gi_142_5, ↓c_143, ↓gi_142_22, ↓c_135, ↓st_148, ↓n_142, ↓s_142_0, ↓s_142_22, ↓s_142_23, ↓s_142_33, ↓s_142_73, ↓s_142_113, ↓s_142_137, ↓s_142_156, ↓s_142_175, ↓s_142_184, ↓s_142_194, ↓s_142_227, ↓bk_v, ↓bk_n, ↓bk_r, ↓pv_i, ↓pv_r, ↓pv_0, ↓pv_l, wz_pk, wz_ti, wz_wz, vI_wz, wz_id, wz_0, List.length_cons, List.length_nil, ↓reduceIte, true_and, and_true, Int.reduceLE, Int.reduceLT, Int.reduceEq, not_true_eq_false, not_false_eq_true, false_or, or_false, true_or, or_true, ite_not, Int.reduceNeg, Int32.reduceToInt, Nat.reduceAdd, Nat.reduceLeDiff, Nat.reduceLT, Nat.reduceEqDiff, Int.reduceAdd, Int.reduceSub, Int.reduceMul, Nat.zero_le, pk_po_ne, pk_po_eq, pk_po_ix, rI, ne_eq, ↓R123, hfi, decide_true, bi_wz, bi_0, Bool.true_eq_false, if_false, ↓R133 hT h0 h1, c2, decide_false, if_true]
      exact z _ _ _
    · rw [if_neg c1] at hR
      have c2 : sk S n p < n := by omega
      have hwe := we_rng (S := S) hs.2
      obtain ⟨q, hq⟩ : ∃ q, q = sk S n p := ⟨_, rfl⟩
      have sq : sk S n q = q := by rw [hq]; exact sk_self sk_end
      rw [← hq] at hR c2 hs hwe
      have r133 : ∀ (Q : MOut → MHp → Prop), (CL 133 [.ref 142] (mkh X s dh dl t (ra M p)) Q ↔ Q (rI (bi (decide (q < n)))) (mkh X s dh dl t (ra M q))) := fun Q => by rw [hq]; exact R133 hT h0 h1
      have r128 : ∀ (Q : MOut → MHp → Prop), (CL 128 [.ref 142] (mkh X s dh dl t (ra M q)) Q ↔ Q (.inl (some (vJ (wrd S q (we S n q))))) (mkh X s dh dl t (ra M q))) := fun Q => by
        have := R128 (Q := Q) (X := X) (s := s) (dh := dh) (dl := dl) (t := t) hT (show 0 ≤ q by omega) hs.2
        rw [sq] at this
        exact this
      have wq : wz q = q := wz_id (by omega) (by omega)
      have q1 : ¬ q = -1 := by omega
      obtain ⟨x, hx⟩ : ∃ x, x = wrd S q (we S n q) := ⟨_, rfl⟩
      rw [← hx] at r128
      have hcl : ∀ r, r = k_clause S n (decide (c = 60)) q (we S n q) → (if r.1 = 0 then (if sk r.2.2 n r.2.1 < n ∧ r.2.2 1 (sk r.2.2 n r.2.1) = 59 then k_all n k (c + 1) (sk r.2.2 n r.2.1 + 1) r.2.2 else (1, sk r.2.2 n r.2.1, r.2.2)) else r) = R := by
        intro r hr
        rw [hr]
        exact hR
      clear hR
      by_cases hw : wy x = wy (hj 25) ∨ wy x = wy (hj 26) ∨ wy x = wy (hj 27) ∨ wy x = wy (hj 28) ∨ wy x = wy (hj 29) ∨ wy x = wy (hj 30) ∨ wy x = wy (hj 31) ∨ wy x = wy (hj 32)
      · have main := R142w (Q := Q) (X := X) (s := s) (dh := dh) (dl := dl) (t := t) (c := c) hT (show 0 ≤ q by omega) hs.2 hb hN hH ⟨e2, e3⟩ hx hw ?_ ?_
        · simp (disch := omega) only [↓x_al_0, ↓x_c, ↓pi_142_0, ↓x_il_1, ↓x_lt0, ↓gi_142_2, ↓x_gt, ↓x_go, ↓c_119, ↓x_ne0, ↓x_ir, ↓c_134, ↓pi_142_18, ↓pi_142_19, ↓pi_142_20, ↓x_is_2, ↓x_il_2, ↓x_ge, ↓gr_142_13, ↓x_inc_2, ↓c_123, ↓x_eq0, ↓c_133, ↓c_128, ↓x_ls_3, ↓x_ll_3, ↓c_141, ↓gi_142_4, ↓c_124, ↓x_eq, ↓x_str, ↓c_129, ↓x_lcw0, ↓x_lcw1, ↓gi_142_18, ↓gi_142_19, ↓gi_142_20, ↓x_ne, ↓c_130, ↓c_139, ↓c_132, ↓gi_142_5, ↓c_143, ↓gi_142_22, ↓c_135, ↓st_148, ↓n_142, ↓s_142_0, ↓s_142_22, ↓s_142_23, ↓s_142_33, ↓s_142_73, ↓s_142_137, ↓s_142_156, ↓s_142_175, ↓s_142_184, ↓s_142_194, ↓s_142_215, ↓s_142_227, ↓bk_v, ↓bk_n, ↓bk_r, ↓pv_i, ↓pv_r, ↓pv_0, ↓pv_l, wz_pk, wz_ti, wz_wz, vI_wz, wz_id, wz_0, List.length_cons, List.length_nil, ↓reduceIte, true_and, and_true, Int.reduceLE, Int.reduceLT, Int.reduceEq, not_true_eq_false, not_false_eq_true, false_or, or_false, true_or, or_true, ite_not, Int.reduceNeg, Int32.reduceToInt, Nat.reduceAdd, Nat.reduceLeDiff, Nat.reduceLT, Nat.reduceEqDiff, Int.reduceAdd, Int.reduceSub, Int.reduceMul, Nat.zero_le, pk_po_ne, pk_po_eq, pk_po_ix, rI, ne_eq, ↓R123, hfi, decide_true, bi_wz, bi_0, Bool.true_eq_false, if_false, ↓r133, c2, ↓r128, ↓R141, hw, if_true]
          exact main
        · refine ⟨fun y S2 M2 f1 f2 f3 f4 => ?_, fun k' y S2 M2 hk f1 f2 f3 f4 f5 => ?_⟩
          · have hcl := hcl _ f1.symm
            simp only [if_true] at hcl
            have dk : decide (c = 60) = false := by
              cases hd2 : decide (c = 60)
              · rfl
              · rw [hd2] at f1; exact absurd f1 kc_m
            have c60 : ¬ c = 60 := by simpa using dk
            obtain ⟨k1, k2, k3⟩ := kp_clause hwe.2 hH f1
            have t1 : S2 1 = S 1 := k3 1 (by omega)
            have hT2 : TR S2 n M2 := (hT.nf f3).st t1
            have hs2 := sk_rng (S := S2) k2.2
            have fi2 : ∀ y, pk (ra M2 y) 142 5 = -1 := fun y => by rw [ra_x (by decide)]; exact f4
            by_cases c3 : sk S2 n y < n ∧ S2 1 (sk S2 n y) = 59
            · rw [if_pos c3] at hcl
              have hch : chr S2 n (sk S2 n y) = 59 := by unfold chr; rw [if_pos c3.1]; exact c3.2
              have z := ih (c + 1) (sk S2 n y + 1) S2 M2 (by omega) (by omega) (by omega) (by omega) (by omega) hT2 f2 k1 (hG.trans k3) (hF.trans f3) f4 hcl
              simp (disch := omega) only [↓x_al_0, ↓x_c, ↓pi_142_0, ↓x_il_1, ↓x_lt0, ↓gi_142_2, ↓x_gt, ↓x_go, ↓c_119, ↓x_ne0, ↓x_ir, ↓c_134, ↓pi_142_18, ↓pi_142_19, ↓pi_142_20, ↓x_is_2, ↓x_il_2, ↓x_ge, ↓gr_142_13, ↓x_inc_2, ↓c_123, ↓x_eq0, ↓c_133, ↓c_128, ↓x_ls_3, ↓x_ll_3, ↓c_141, ↓gi_142_4, ↓c_124, ↓x_eq, ↓x_str, ↓c_129, ↓x_lcw0, ↓x_lcw1, ↓gi_142_18, ↓gi_142_19, ↓gi_142_20, ↓x_ne, ↓c_130, ↓c_139, ↓c_132, ↓gi_142_5, ↓c_143, ↓gi_142_22, ↓c_135, ↓st_148, ↓n_142, ↓s_142_0, ↓s_142_22, ↓s_142_23, ↓s_142_33, ↓s_142_73, ↓s_142_113, ↓s_142_137, ↓s_142_156, ↓s_142_175, ↓s_142_184, ↓s_142_194, ↓s_142_227, ↓bk_v, ↓bk_n, ↓bk_r, ↓pv_i, ↓pv_r, ↓pv_0, ↓pv_l, wz_pk, wz_ti, wz_wz, vI_wz, wz_id, wz_0, List.length_cons, List.length_nil, ↓reduceIte, true_and, and_true, Int.reduceLE, Int.reduceLT, Int.reduceEq, not_true_eq_false, not_false_eq_true, false_or, or_false, true_or, or_true, ite_not, Int.reduceNeg, Int32.reduceToInt, Nat.reduceAdd, Nat.reduceLeDiff, Nat.reduceLT, Nat.reduceEqDiff, Int.reduceAdd, Int.reduceSub, Int.reduceMul, Nat.zero_le, pk_po_ne, pk_po_eq, pk_po_ix, rI, ne_eq, ↓R132 (c := 59) hT2 (show 0 ≤ y by omega) k2.2 f4 rfl, hch, if_true]
              exact z _ _
            · rw [if_neg c3] at hcl
              have hch : ¬ chr S2 n (sk S2 n y) = 59 := by
                unfold chr
                by_cases c4 : sk S2 n y < n
                · rw [if_pos c4]; exact fun e => c3 ⟨c4, e⟩
                · rw [if_neg c4]; decide
              have w1 : wz (sk S2 n y) = sk S2 n y := wz_id (by omega) (by omega)
              have w2 : ¬ sk S2 n y = -1 := by omega
              have z := hf 1 (sk S2 n y) S2 (ra (po (po M2 142 5 (sk S2 n y)) 142 6 1) (sk S2 n y)) (by decide) hcl.symm (hG.trans k3) (hF.trans (f3.trans (by (repeat (first | exact NF.rfl | refine NF.pw ?_ rfl | refine NF.fil ?_ (by decide) | refine NF.ra ?_))))) (by simp [pk_po, pk_flm, ra]; exact w1) (by simp [pk_po, pk_flm, ra]; rfl) w2
              have hb2 : ¬ pk (ra (po (po M2 142 5 (sk S2 n y)) 142 6 1) (sk S2 n y)) 142 5 = -1 := by simp [pk_po, pk_flm, ra]; rw [w1]; exact w2
              simp (disch := omega) only [↓x_al_0, ↓x_c, ↓pi_142_0, ↓x_il_1, ↓x_lt0, ↓gi_142_2, ↓x_gt, ↓x_go, ↓c_119, ↓x_ne0, ↓x_ir, ↓c_134, ↓pi_142_18, ↓pi_142_19, ↓pi_142_20, ↓x_is_2, ↓x_il_2, ↓x_ge, ↓gr_142_13, ↓x_inc_2, ↓c_123, ↓x_eq0, ↓c_133, ↓c_128, ↓x_ls_3, ↓x_ll_3, ↓c_141, ↓gi_142_4, ↓c_124, ↓x_eq, ↓x_str, ↓c_129, ↓x_lcw0, ↓x_lcw1, ↓gi_142_18, ↓gi_142_19, ↓gi_142_20, ↓x_ne, ↓c_130, ↓c_139, ↓c_132, ↓gi_142_5, ↓c_143, ↓gi_142_22, ↓c_135, ↓st_148, ↓n_142, ↓s_142_0, ↓s_142_22, ↓s_142_23, ↓s_142_33, ↓s_142_73, ↓s_142_113, ↓s_142_137, ↓s_142_156, ↓s_142_175, ↓s_142_184, ↓s_142_194, ↓s_142_227, ↓bk_v, ↓bk_n, ↓bk_r, ↓pv_i, ↓pv_r, ↓pv_0, ↓pv_l, wz_pk, wz_ti, wz_wz, vI_wz, wz_id, wz_0, List.length_cons, List.length_nil, ↓reduceIte, true_and, and_true, Int.reduceLE, Int.reduceLT, Int.reduceEq, not_true_eq_false, not_false_eq_true, false_or, or_false, true_or, or_true, ite_not, Int.reduceNeg, Int32.reduceToInt, Nat.reduceAdd, Nat.reduceLeDiff, Nat.reduceLT, Nat.reduceEqDiff, Int.reduceAdd, Int.reduceSub, Int.reduceMul, Nat.zero_le, pk_po_ne, pk_po_eq, pk_po_ix, rI, ne_eq, ↓R132 (c := 59) hT2 (show 0 ≤ y by omega) k2.2 f4 rfl, hch, if_false]
              rw [s_142_75]
              simp (disch := omega) only [↓x_al_0, ↓x_c, ↓pi_142_0, ↓x_il_1, ↓x_lt0, ↓gi_142_2, ↓x_gt, ↓x_go, ↓c_119, ↓x_ne0, ↓x_ir, ↓c_134, ↓pi_142_18, ↓pi_142_19, ↓pi_142_20, ↓x_is_2, ↓x_il_2, ↓x_ge, ↓gr_142_13, ↓x_inc_2, ↓c_123, ↓x_eq0, ↓c_133, ↓c_128, ↓x_ls_3, ↓x_ll_3, ↓c_141, ↓gi_142_4, ↓c_124, ↓x_eq, ↓x_str, ↓c_129, ↓x_lcw0, ↓x_lcw1, ↓gi_142_18, ↓gi_142_19, ↓gi_142_20, ↓x_ne, ↓c_130, ↓c_139, ↓c_132, ↓gi_142_5, ↓c_143, ↓gi_142_22, ↓c_135, ↓st_148, ↓n_142, ↓s_142_0, ↓s_142_22, ↓s_142_23, ↓s_142_33, ↓s_142_73, ↓s_142_113, ↓s_142_137, ↓s_142_156, ↓s_142_175, ↓s_142_184, ↓s_142_194, ↓s_142_227, ↓bk_v, ↓bk_n, ↓bk_r, ↓pv_i, ↓pv_r, ↓pv_0, ↓pv_l, wz_pk, wz_ti, wz_wz, vI_wz, wz_id, wz_0, List.length_cons, List.length_nil, ↓reduceIte, true_and, and_true, Int.reduceLE, Int.reduceLT, Int.reduceEq, not_true_eq_false, not_false_eq_true, false_or, or_false, true_or, or_true, ite_not, Int.reduceNeg, Int32.reduceToInt, Nat.reduceAdd, Nat.reduceLeDiff, Nat.reduceLT, Nat.reduceEqDiff, Int.reduceAdd, Int.reduceSub, Int.reduceMul, Nat.zero_le, pk_po_ne, pk_po_eq, pk_po_ix, rI, ne_eq, ↓R123, hb2, decide_false, bi_wz, bi_0, if_true]
              exact z _ _ _
          · have hcl2 := hcl _ f1.symm
            simp only [hk, if_false] at hcl2
            have hb2 : ¬ pk M2 142 5 = -1 := by rw [f3]; exact f5
            have sS := kc_S hk f1
            have hG2 : hag S1 S2 := by rw [sS]; exact hG
            have z := hf k' y S2 M2 hk hcl2.symm hG2 (hF.trans f2) f3 f4 f5
            simp (disch := omega) only [↓x_al_0, ↓x_c, ↓pi_142_0, ↓x_il_1, ↓x_lt0, ↓gi_142_2, ↓x_gt, ↓x_go, ↓c_119, ↓x_ne0, ↓x_ir, ↓c_134, ↓pi_142_18, ↓pi_142_19, ↓pi_142_20, ↓x_is_2, ↓x_il_2, ↓x_ge, ↓gr_142_13, ↓x_inc_2, ↓c_123, ↓x_eq0, ↓c_133, ↓c_128, ↓x_ls_3, ↓x_ll_3, ↓c_141, ↓gi_142_4, ↓c_124, ↓x_eq, ↓x_str, ↓c_129, ↓x_lcw0, ↓x_lcw1, ↓gi_142_18, ↓gi_142_19, ↓gi_142_20, ↓x_ne, ↓c_130, ↓c_139, ↓c_132, ↓gi_142_5, ↓c_143, ↓gi_142_22, ↓c_135, ↓st_148, ↓n_142, ↓s_142_0, ↓s_142_22, ↓s_142_23, ↓s_142_33, ↓s_142_73, ↓s_142_113, ↓s_142_137, ↓s_142_156, ↓s_142_175, ↓s_142_184, ↓s_142_194, ↓s_142_227, ↓bk_v, ↓bk_n, ↓bk_r, ↓pv_i, ↓pv_r, ↓pv_0, ↓pv_l, wz_pk, wz_ti, wz_wz, vI_wz, wz_id, wz_0, List.length_cons, List.length_nil, ↓reduceIte, true_and, and_true, Int.reduceLE, Int.reduceLT, Int.reduceEq, not_true_eq_false, not_false_eq_true, false_or, or_false, true_or, or_true, ite_not, Int.reduceNeg, Int32.reduceToInt, Nat.reduceAdd, Nat.reduceLeDiff, Nat.reduceLT, Nat.reduceEqDiff, Int.reduceAdd, Int.reduceSub, Int.reduceMul, Nat.zero_le, pk_po_ne, pk_po_eq, pk_po_ix, rI, ne_eq, ↓R132b hb2]
            rw [s_142_75]
            simp (disch := omega) only [↓x_al_0, ↓x_c, ↓pi_142_0, ↓x_il_1, ↓x_lt0, ↓gi_142_2, ↓x_gt, ↓x_go, ↓c_119, ↓x_ne0, ↓x_ir, ↓c_134, ↓pi_142_18, ↓pi_142_19, ↓pi_142_20, ↓x_is_2, ↓x_il_2, ↓x_ge, ↓gr_142_13, ↓x_inc_2, ↓c_123, ↓x_eq0, ↓c_133, ↓c_128, ↓x_ls_3, ↓x_ll_3, ↓c_141, ↓gi_142_4, ↓c_124, ↓x_eq, ↓x_str, ↓c_129, ↓x_lcw0, ↓x_lcw1, ↓gi_142_18, ↓gi_142_19, ↓gi_142_20, ↓x_ne, ↓c_130, ↓c_139, ↓c_132, ↓gi_142_5, ↓c_143, ↓gi_142_22, ↓c_135, ↓st_148, ↓n_142, ↓s_142_0, ↓s_142_22, ↓s_142_23, ↓s_142_33, ↓s_142_73, ↓s_142_113, ↓s_142_137, ↓s_142_156, ↓s_142_175, ↓s_142_184, ↓s_142_194, ↓s_142_227, ↓bk_v, ↓bk_n, ↓bk_r, ↓pv_i, ↓pv_r, ↓pv_0, ↓pv_l, wz_pk, wz_ti, wz_wz, vI_wz, wz_id, wz_0, List.length_cons, List.length_nil, ↓reduceIte, true_and, and_true, Int.reduceLE, Int.reduceLT, Int.reduceEq, not_true_eq_false, not_false_eq_true, false_or, or_false, true_or, or_true, ite_not, Int.reduceNeg, Int32.reduceToInt, Nat.reduceAdd, Nat.reduceLeDiff, Nat.reduceLT, Nat.reduceEqDiff, Int.reduceAdd, Int.reduceSub, Int.reduceMul, Nat.zero_le, pk_po_ne, pk_po_eq, pk_po_ix, rI, ne_eq, ↓R123, hb2, decide_false, bi_wz, bi_0, if_true]
            exact z _ _ _
        · intro k' y S2 M2 hk f1 f2 f3 f4 f5
          have hcl2 := hcl _ f1.symm
          simp only [hk, if_false] at hcl2
          have sS := kc_S hk f1
          have hG2 : hag S1 S2 := by rw [sS]; exact hG
          exact hf k' y S2 M2 hk hcl2.symm hG2 (hF.trans f2) f3 f4 f5 _ _ _
      · have hkc : k_clause S n (decide (c = 60)) q (we S n q) = (1, q, S) := by
          apply kc_pos
          intro hh
          apply hw
          have u1 := wrd_iff (S := S) (n := n) (q := q) (j := 25) (by decide) hs.2
          have u2 := wrd_iff (S := S) (n := n) (q := q) (j := 26) (by decide) hs.2
          have u3 := wrd_iff (S := S) (n := n) (q := q) (j := 27) (by decide) hs.2
          have u4 := wrd_iff (S := S) (n := n) (q := q) (j := 28) (by decide) hs.2
          have u5 := wrd_iff (S := S) (n := n) (q := q) (j := 29) (by decide) hs.2
          have u6 := wrd_iff (S := S) (n := n) (q := q) (j := 30) (by decide) hs.2
          have u7 := wrd_iff (S := S) (n := n) (q := q) (j := 31) (by decide) hs.2
          have u8 := wrd_iff (S := S) (n := n) (q := q) (j := 32) (by decide) hs.2
          obtain ⟨w1, w2, w3, w4, w5, w6, w7, w8⟩ := wj
          rw [← hx] at u1 u2 u3 u4 u5 u6 u7 u8
          rcases hh with h | h | h | h | h | h | h | h
          · exact Or.inl (by rw [← w1] at h; exact u1.mpr h)
          · exact Or.inr (Or.inl (by rw [← w2] at h; exact u2.mpr h))
          · exact Or.inr (Or.inr (Or.inl (by rw [← w3] at h; exact u3.mpr h)))
          · exact Or.inr (Or.inr (Or.inr (Or.inl (by rw [← w4] at h; exact u4.mpr h))))
          · exact Or.inr (Or.inr (Or.inr (Or.inr (Or.inl (by rw [← w5] at h; exact u5.mpr h)))))
          · exact Or.inr (Or.inr (Or.inr (Or.inr (Or.inr (Or.inl (by rw [← w6] at h; exact u6.mpr h))))))
          · exact Or.inr (Or.inr (Or.inr (Or.inr (Or.inr (Or.inr (Or.inl (by rw [← w7] at h; exact u7.mpr h)))))))
          · exact Or.inr (Or.inr (Or.inr (Or.inr (Or.inr (Or.inr (Or.inr (by rw [← w8] at h; exact u8.mpr h)))))))
        have hcl := hcl _ hkc.symm
        simp only [Int.reduceEq, if_false] at hcl
        have z := hf 1 q S (ra (po (po M 142 5 q) 142 6 1) q) (by decide) hcl.symm hG (hF.trans (by (repeat (first | exact NF.rfl | refine NF.pw ?_ rfl | refine NF.fil ?_ (by decide) | refine NF.ra ?_)))) (by simp [pk_po, pk_flm, ra]; exact wq) (by simp [pk_po, pk_flm, ra]; rfl) q1
        have hb2 : ¬ pk (ra (po (po M 142 5 q) 142 6 1) q) 142 5 = -1 := by simp [pk_po, pk_flm, ra]; rw [wq]; exact q1
        simp (disch := omega) only [↓x_al_0, ↓x_c, ↓pi_142_0, ↓x_il_1, ↓x_lt0, ↓gi_142_2, ↓x_gt, ↓x_go, ↓c_119, ↓x_ne0, ↓x_ir, ↓c_134, ↓pi_142_18, ↓pi_142_19, ↓pi_142_20, ↓x_is_2, ↓x_il_2, ↓x_ge, ↓gr_142_13, ↓x_inc_2, ↓c_123, ↓x_eq0, ↓c_133, ↓c_128, ↓x_ls_3, ↓x_ll_3, ↓c_141, ↓gi_142_4, ↓c_124, ↓x_eq, ↓x_str, ↓c_129, ↓x_lcw0, ↓x_lcw1, ↓gi_142_18, ↓gi_142_19, ↓gi_142_20, ↓x_ne, ↓c_130, ↓c_139, ↓c_132, ↓gi_142_5, ↓c_143, ↓gi_142_22, ↓c_135, ↓st_148, ↓n_142, ↓s_142_0, ↓s_142_22, ↓s_142_23, ↓s_142_33, ↓s_142_73, ↓s_142_113, ↓s_142_137, ↓s_142_156, ↓s_142_175, ↓s_142_184, ↓s_142_194, ↓s_142_227, ↓bk_v, ↓bk_n, ↓bk_r, ↓pv_i, ↓pv_r, ↓pv_0, ↓pv_l, wz_pk, wz_ti, wz_wz, vI_wz, wz_id, wz_0, List.length_cons, List.length_nil, ↓reduceIte, true_and, and_true, Int.reduceLE, Int.reduceLT, Int.reduceEq, not_true_eq_false, not_false_eq_true, false_or, or_false, true_or, or_true, ite_not, Int.reduceNeg, Int32.reduceToInt, Nat.reduceAdd, Nat.reduceLeDiff, Nat.reduceLT, Nat.reduceEqDiff, Int.reduceAdd, Int.reduceSub, Int.reduceMul, Nat.zero_le, pk_po_ne, pk_po_eq, pk_po_ix, rI, ne_eq, ↓R123, hfi, decide_true, bi_wz, bi_0, Bool.true_eq_false, if_false, ↓r133, c2, ↓r128, ↓R141, hw, ra_4, ↓R124f (hfi _), ra_px, hb2, decide_false, if_true]
        exact z _ _ _
theorem R142 (hR : RR S M) (hB : 0 ≤ S 0 1 ∧ S 0 1 ≤ 600) (hn : wz n = n) (hP : PR X s dh dl t M Q cA (o_house S n)) : CL 142 [.ref 142, vI n] (mkh X s dh dl t M) Q := by
  have g0 := hR.taped
  have hR0 := hR.pw (a := 142) (i := 0) (x := 0) rfl
  have hF0 : FR M (po M 142 0 0) := FR.rfl.pw (by decide)
  by_cases h : 0 ≤ n ∧ n ≤ S 0 1
  · have h1 : ¬ n < 0 := by omega
    have h2 : ¬ S 0 1 < n := by omega
    obtain ⟨M1, hM1⟩ : ∃ M1, M1 = flm (po (po (po (po (po (po (po (po (po (po M 142 0 0) 142 2 0) 142 8 (-1)) 142 3 n) 142 4 0) 142 5 (-1)) 142 7 0) 142 18 0) 142 19 0) 142 20 0) 148 0 4 0 := ⟨_, rfl⟩
    obtain ⟨S1, hS1⟩ : ∃ S1, S1 = clrH (su (su S 0 1 0) 2 5 (-1)) := ⟨_, rfl⟩
    have s1 : S1 1 = S 1 := by rw [hS1]; funext j; simp [clrH, su, flS]
    have a3 : pk M1 142 3 = n := by rw [hM1]; simp [pk_flm, pk_po, hn]
    have a4 : pk M1 142 4 = 0 := by rw [hM1]; simp [pk_flm, pk_po, wz_0]
    have a5 : pk M1 142 5 = -1 := by rw [hM1]; simp [pk_flm, pk_po]; rfl
    have a2 : pk M1 142 2 = 0 := by rw [hM1]; simp [pk_flm, pk_po, wz_0]
    have ao : ∀ a i, rst a i = true → ¬ (a = 142 ∧ (i = 2 ∨ i = 8)) → pk M1 a i = pk M a i := by
      intro a i e1 e2
      simp only [rst, Bool.or_eq_true, Bool.and_eq_true, decide_eq_true_eq] at e1
      rw [hM1, pk_flm, if_neg (by omega), pk_po, if_neg (by omega), pk_po, if_neg (by omega), pk_po, if_neg (by omega), pk_po, if_neg (by omega), pk_po, if_neg (by omega), pk_po, if_neg (by omega), pk_po, if_neg (by omega), pk_po, if_neg (by omega), pk_po, if_neg (by omega), pk_po, if_neg (by omega)]
    have a0 : pk M1 142 0 = 0 := by rw [hM1]; simp [pk_flm, pk_po, wz_0]
    have hF1 : FR M M1 := by
      intro a ha
      funext j
      rw [hM1]
      simp only [flm, po]
      have c1 : ¬ a = 142 := by omega
      have c2 : ¬ a = 148 := by omega
      simp only [c1, c2, false_and, if_false]
    have hT1 : TR S1 n M1 := ⟨fun i b1 b2 => by rw [ao _ _ rfl (by omega), s1]; exact hR.tape i b1 (by omega), a3, ⟨h.1, by omega⟩⟩
    have v0 : S1 33 0 = 0 := by rw [hS1]; simp [clrH, su, flS]
    have v1 : S1 33 1 = 0 := by rw [hS1]; simp [clrH, su, flS]
    have v2 : S1 33 2 = 0 := by rw [hS1]; simp [clrH, su, flS]
    have hN1 : RN S1 M1 := by
      unfold RN
      rw [v0, v1, v2]
      refine ⟨by rw [hM1]; simp [pk_flm, pk_po, wz_0], by rw [hM1]; simp [pk_flm, pk_po, wz_0], by rw [hM1]; simp [pk_flm, pk_po, wz_0], fun i b1 b2 => by omega, fun i u b1 b2 => by omega, fun i b1 b2 => by omega, fun i b1 b2 => by omega, fun i b1 b2 => by omega, fun i b1 b2 => by omega, fun i b1 b2 => by omega, fun i b1 b2 => by omega, fun i u b1 b2 => by omega, fun i b1 b2 => by omega, fun i b1 b2 => by omega, fun i b1 b2 => by omega, fun k b1 b2 => ?_⟩
      rw [hM1, hS1, pk_flm, if_pos ⟨rfl, b1, by omega⟩]
      simp [clrH, su, flS, b1, b2, wz_0]
    have hH1 : nho S1 := by rw [hS1]; exact nho_clr
    have hs1 : ∀ a, ¬ a = 0 → ¬ a = 2 → (a < 33 ∨ 63 ≤ a) → S1 a = S a := by
      intro a e1 e2 e3
      rw [hS1]
      funext j
      simp only [clrH, su, flS]
      grind
    have z01 : S1 0 1 = 0 := by rw [hS1]; simp [clrH, su, flS]
    have z011 : S1 0 11 = S 0 11 := by rw [hS1]; simp [clrH, su, flS]
    have z25 : S1 2 5 = -1 := by rw [hS1]; simp [clrH, su, flS]
    have hRr : k_all n 61 0 0 S1 = hsR S n := by rw [hS1]; rfl
    have lo := R142l (Q := Q) (X := X) (s := s) (dh := dh) (dl := dl) (t := t) (n := n) (M1 := M1) (S1 := S1) (hsR S n) ?_ ?_ 61 0 0 S1 M1 (by decide) (by decide) (by decide) (by decide) h.1 hT1 hN1 hH1 hag.rfl NF.rfl a5 hRr
    · rw [ra_self a4] at lo
      -- the fees
      have fees : ∀ (M' : Mem), EX 142 (sx 142 73) [.ref 142, vI n, vI 4, .null, .null] [] (mkh X s dh dl t (flm M' 148 0 4 0)) Q → EX 142 (sx 142 55) [.ref 142, vI n, vI 0, .null, .null] [] (mkh X s dh dl t M') Q := by
        intro M' hh
        have key : EX 142 (sx 142 55) [.ref 142, vI n, vI ((0 : Nat) : Int), .null, .null] [] (mkh X s dh dl t (flm M' 148 0 ((0 : Nat) : Int) 0)) Q := by
          refine lp (n := 4) (fun i => EX 142 (sx 142 55) [.ref 142, vI n, vI (i : Int), .null, .null] [] (mkh X s dh dl t (flm M' 148 0 (i : Int) 0)) Q) ?_ ?_
          · have e1 : (4 : Int) ≤ ((4 : Nat) : Int) := by omega
            rw [s_142_55]
            simp (disch := omega) only [↓x_al_0, ↓x_c, ↓pi_142_0, ↓x_il_1, ↓x_lt0, ↓gi_142_2, ↓x_gt, ↓x_go, ↓c_119, ↓x_ne0, ↓x_ir, ↓c_134, ↓pi_142_18, ↓pi_142_19, ↓pi_142_20, ↓x_is_2, ↓x_il_2, ↓x_ge, ↓gr_142_13, ↓x_inc_2, ↓c_123, ↓x_eq0, ↓c_133, ↓c_128, ↓x_ls_3, ↓x_ll_3, ↓c_141, ↓gi_142_4, ↓c_124, ↓x_eq, ↓x_str, ↓c_129, ↓x_lcw0, ↓x_lcw1, ↓gi_142_18, ↓gi_142_19, ↓gi_142_20, ↓x_ne, ↓c_130, ↓c_139, ↓c_132, ↓gi_142_5, ↓c_143, ↓gi_142_22, ↓c_135, ↓st_148, ↓n_142, ↓s_142_0, ↓s_142_22, ↓s_142_23, ↓s_142_33, ↓s_142_113, ↓s_142_137, ↓s_142_156, ↓s_142_175, ↓s_142_184, ↓s_142_194, ↓s_142_215, ↓s_142_227, ↓bk_v, ↓bk_n, ↓bk_r, ↓pv_i, ↓pv_r, ↓pv_0, ↓pv_l, wz_pk, wz_ti, wz_wz, vI_wz, wz_id, wz_0, List.length_cons, List.length_nil, ↓reduceIte, true_and, and_true, Int.reduceLE, Int.reduceLT, Int.reduceEq, not_true_eq_false, not_false_eq_true, false_or, or_false, true_or, or_true, ite_not, Int.reduceNeg, Int32.reduceToInt, Nat.reduceAdd, Nat.reduceLeDiff, Nat.reduceLT, Nat.reduceEqDiff, Int.reduceAdd, Int.reduceSub, Int.reduceMul, Nat.zero_le, pk_po_ne, pk_po_eq, pk_po_ix, rI, ne_eq, e1, if_true]
            exact hh
          · intro i hi ih
            have e1 : ¬ (4 : Int) ≤ (i : Int) := by omega
            have b1 : (i : Int) < 4 := by omega
            have b2 : 0 ≤ (i : Int) := by omega
            have fs := flm_s (M := M') (d := 148) (f := 0) (n := i) (x := 0) (by omega)
            rw [Int.zero_add] at fs
            rw [show ((i + 1 : Nat) : Int) = (i : Int) + 1 by omega, ← fs] at ih
            rw [s_142_55]
            simp (disch := omega) only [↓x_al_0, ↓x_c, ↓pi_142_0, ↓x_il_1, ↓x_lt0, ↓gi_142_2, ↓x_gt, ↓x_go, ↓c_119, ↓x_ne0, ↓x_ir, ↓c_134, ↓pi_142_18, ↓pi_142_19, ↓pi_142_20, ↓x_is_2, ↓x_il_2, ↓x_ge, ↓gr_142_13, ↓x_inc_2, ↓c_123, ↓x_eq0, ↓c_133, ↓c_128, ↓x_ls_3, ↓x_ll_3, ↓c_141, ↓gi_142_4, ↓c_124, ↓x_eq, ↓x_str, ↓c_129, ↓x_lcw0, ↓x_lcw1, ↓gi_142_18, ↓gi_142_19, ↓gi_142_20, ↓x_ne, ↓c_130, ↓c_139, ↓c_132, ↓gi_142_5, ↓c_143, ↓gi_142_22, ↓c_135, ↓st_148, ↓n_142, ↓s_142_0, ↓s_142_22, ↓s_142_23, ↓s_142_33, ↓s_142_113, ↓s_142_137, ↓s_142_156, ↓s_142_175, ↓s_142_184, ↓s_142_194, ↓s_142_215, ↓s_142_227, ↓bk_v, ↓bk_n, ↓bk_r, ↓pv_i, ↓pv_r, ↓pv_0, ↓pv_l, wz_pk, wz_ti, wz_wz, vI_wz, wz_id, wz_0, List.length_cons, List.length_nil, ↓reduceIte, true_and, and_true, Int.reduceLE, Int.reduceLT, Int.reduceEq, not_true_eq_false, not_false_eq_true, false_or, or_false, true_or, or_true, ite_not, Int.reduceNeg, Int32.reduceToInt, Nat.reduceAdd, Nat.reduceLeDiff, Nat.reduceLT, Nat.reduceEqDiff, Int.reduceAdd, Int.reduceSub, Int.reduceMul, Nat.zero_le, pk_po_ne, pk_po_eq, pk_po_ix, rI, ne_eq, e1, if_false, b1, b2]
            exact ih
        rw [show ((0 : Nat) : Int) = 0 from rfl, flm_0] at key
        exact key
      have lo2 := lo .null .null
      simp (disch := omega) only [↓x_al_0, ↓x_c, ↓pi_142_0, ↓x_il_1, ↓x_lt0, ↓gi_142_2, ↓x_gt, ↓x_go, ↓c_119, ↓x_ne0, ↓x_ir, ↓c_134, ↓pi_142_18, ↓pi_142_19, ↓pi_142_20, ↓x_is_2, ↓x_il_2, ↓x_ge, ↓gr_142_13, ↓x_inc_2, ↓c_123, ↓x_eq0, ↓c_133, ↓c_128, ↓x_ls_3, ↓x_ll_3, ↓c_141, ↓gi_142_4, ↓c_124, ↓x_eq, ↓x_str, ↓c_129, ↓x_lcw0, ↓x_lcw1, ↓gi_142_18, ↓gi_142_19, ↓gi_142_20, ↓x_ne, ↓c_130, ↓c_139, ↓c_132, ↓gi_142_5, ↓c_143, ↓gi_142_22, ↓c_135, ↓st_148, ↓n_142, ↓s_142_0, ↓s_142_22, ↓s_142_33, ↓s_142_73, ↓s_142_113, ↓s_142_137, ↓s_142_156, ↓s_142_175, ↓s_142_184, ↓s_142_194, ↓s_142_215, ↓s_142_227, ↓bk_v, ↓bk_n, ↓bk_r, ↓pv_i, ↓pv_r, ↓pv_0, ↓pv_l, wz_pk, wz_ti, wz_wz, vI_wz, wz_id, wz_0, List.length_cons, List.length_nil, ↓reduceIte, true_and, and_true, Int.reduceLE, Int.reduceLT, Int.reduceEq, not_true_eq_false, not_false_eq_true, false_or, or_false, true_or, or_true, ite_not, Int.reduceNeg, Int32.reduceToInt, Nat.reduceAdd, Nat.reduceLeDiff, Nat.reduceLT, Nat.reduceEqDiff, Int.reduceAdd, Int.reduceSub, Int.reduceMul, Nat.zero_le, pk_po_ne, pk_po_eq, pk_po_ix, rI, ne_eq, hn, g0, wz_of g0, h1, h2, if_false]
      rw [s_142_23]
      simp (disch := omega) only [↓x_al_0, ↓x_c, ↓pi_142_0, ↓x_il_1, ↓x_lt0, ↓gi_142_2, ↓x_gt, ↓x_go, ↓c_119, ↓x_ne0, ↓x_ir, ↓c_134, ↓pi_142_18, ↓pi_142_19, ↓pi_142_20, ↓x_is_2, ↓x_il_2, ↓x_ge, ↓gr_142_13, ↓x_inc_2, ↓c_123, ↓x_eq0, ↓c_133, ↓c_128, ↓x_ls_3, ↓x_ll_3, ↓c_141, ↓gi_142_4, ↓c_124, ↓x_eq, ↓x_str, ↓c_129, ↓x_lcw0, ↓x_lcw1, ↓gi_142_18, ↓gi_142_19, ↓gi_142_20, ↓x_ne, ↓c_130, ↓c_139, ↓c_132, ↓gi_142_5, ↓c_143, ↓gi_142_22, ↓c_135, ↓st_148, ↓n_142, ↓s_142_0, ↓s_142_22, ↓s_142_23, ↓s_142_33, ↓s_142_73, ↓s_142_113, ↓s_142_137, ↓s_142_156, ↓s_142_175, ↓s_142_184, ↓s_142_194, ↓s_142_215, ↓s_142_227, ↓bk_v, ↓bk_n, ↓bk_r, ↓pv_i, ↓pv_r, ↓pv_0, ↓pv_l, wz_pk, wz_ti, wz_wz, vI_wz, wz_id, wz_0, List.length_cons, List.length_nil, ↓reduceIte, true_and, and_true, Int.reduceLE, Int.reduceLT, Int.reduceEq, not_true_eq_false, not_false_eq_true, false_or, or_false, true_or, or_true, ite_not, Int.reduceNeg, Int32.reduceToInt, Nat.reduceAdd, Nat.reduceLeDiff, Nat.reduceLT, Nat.reduceEqDiff, Int.reduceAdd, Int.reduceSub, Int.reduceMul, Nat.zero_le, pk_po_ne, pk_po_eq, pk_po_ix, rI, ne_eq, ↓R119v (M := po M 142 0 0) (c := 1) (k := 1) th0 rfl (by decide) (by decide), if_false, ↓R134]
      apply fees
      rw [s_142_73]
      simp only [↓x_al_0, ↓x_c, ↓pi_142_0, ↓x_il_1, ↓x_lt0, ↓gi_142_2, ↓x_gt, ↓x_go, ↓c_119, ↓x_ne0, ↓x_ir, ↓c_134, ↓pi_142_18, ↓pi_142_19, ↓pi_142_20, ↓x_is_2, ↓x_il_2, ↓x_ge, ↓gr_142_13, ↓x_inc_2, ↓c_123, ↓x_eq0, ↓c_133, ↓c_128, ↓x_ls_3, ↓x_ll_3, ↓c_141, ↓gi_142_4, ↓c_124, ↓x_eq, ↓x_str, ↓c_129, ↓x_lcw0, ↓x_lcw1, ↓gi_142_18, ↓gi_142_19, ↓gi_142_20, ↓x_ne, ↓c_130, ↓c_139, ↓c_132, ↓gi_142_5, ↓c_143, ↓gi_142_22, ↓c_135, ↓st_148, ↓n_142, ↓s_142_0, ↓s_142_22, ↓s_142_23, ↓s_142_33, ↓s_142_73, ↓s_142_113, ↓s_142_137, ↓s_142_156, ↓s_142_175, ↓s_142_184, ↓s_142_194, ↓s_142_215, ↓s_142_227, ↓bk_v, ↓bk_n, ↓bk_r, ↓pv_i, ↓pv_r, ↓pv_0, ↓pv_l, wz_pk, wz_ti, wz_wz, vI_wz, wz_id, wz_0, List.length_cons, List.length_nil, ↓reduceIte, true_and, and_true, Int.reduceLE, Int.reduceLT, Int.reduceEq, not_true_eq_false, not_false_eq_true, false_or, or_false, true_or, or_true, ite_not, Int.reduceNeg, Int32.reduceToInt, Nat.reduceAdd, Nat.reduceLeDiff, Nat.reduceLT, Nat.reduceEqDiff, Int.reduceAdd, Int.reduceSub, Int.reduceMul, Nat.zero_le, pk_po_ne, pk_po_eq, pk_po_ix, rI, ne_eq]
      rw [← hM1]
      exact lo2
    · -- done
      intro y S2 M2 r1 r2 r3 r4 r5 r6 a b c
      have hR2 : RR (su (clrC (swSH S2)) 0 11 0) (po (stM M2) 142 8 (-1)) := by
        refine hR.setH (S1 := S2) (M1 := M2) (fun a i e1 e2 => ?_) (fun a e1 e2 e3 => by rw [r4 a e3, hs1 a e1 e2 e3]) r2 ?_ ?_ ?_ r3
        · rw [r5.2 a i ?_, ao a i e1 e2]
          simp only [rst, Bool.or_eq_true, Bool.and_eq_true, decide_eq_true_eq] at e1
          simp only [nfx, Bool.or_eq_false_iff, Bool.and_eq_false_iff, decide_eq_false_iff_not]
          omega
        · rw [r5.2 _ _ rfl]; exact a2
        · rw [r4 0 (by omega)]; exact z01
        · rw [r4 2 (by omega)]; exact z25
      have g22 : pk (stM M2) 142 22 = S2 33 1 := by
        have := r2.ng
        unfold stM
        simp [pk_po, pk_flm, pk_cpi, this, wz_of this]
      have t0 : pk (po (stM M2) 142 8 (-1)) 142 0 = 0 := by
        have : pk M2 142 0 = 0 := by rw [r5.2 _ _ rfl]; exact a0
        unfold stM
        simp [pk_po, pk_flm, pk_cpi, this]
      have f5 : pk (stM M2) 142 5 = -1 := by
        unfold stM
        simp [pk_po, pk_flm, pk_cpi, r6]
      have e := hP.ok (M' := po (stM M2) 142 8 (-1)) (by rw [o_house, if_pos h, r1]; rfl) hR2 (by
        intro a ha
        have h9 := (hF1.trans r5.1) a ha
        rw [← h9]
        funext j
        unfold stM
        simp only [po, flm, cpi, show ¬ a = 142 by omega, show ¬ a = 149 by omega, show ¬ a = 150 by omega, show ¬ a = 151 by omega, show ¬ a = 152 by omega, show ¬ a = 162 by omega, show ¬ a = 163 by omega, show ¬ a = 164 by omega, show ¬ a = 165 by omega, false_and, if_false]) t0
      rw [s_142_215]
      simp (disch := omega) only [↓x_al_0, ↓x_c, ↓pi_142_0, ↓x_il_1, ↓x_lt0, ↓gi_142_2, ↓x_gt, ↓x_go, ↓c_119, ↓x_ne0, ↓x_ir, ↓c_134, ↓pi_142_18, ↓pi_142_19, ↓pi_142_20, ↓x_is_2, ↓x_il_2, ↓x_ge, ↓gr_142_13, ↓x_inc_2, ↓c_123, ↓x_eq0, ↓c_133, ↓c_128, ↓x_ls_3, ↓x_ll_3, ↓c_141, ↓gi_142_4, ↓c_124, ↓x_eq, ↓x_str, ↓c_129, ↓x_lcw0, ↓x_lcw1, ↓gi_142_18, ↓gi_142_19, ↓gi_142_20, ↓x_ne, ↓c_130, ↓c_139, ↓c_132, ↓gi_142_5, ↓c_143, ↓gi_142_22, ↓c_135, ↓st_148, ↓n_142, ↓s_142_0, ↓s_142_22, ↓s_142_23, ↓s_142_33, ↓s_142_73, ↓s_142_113, ↓s_142_137, ↓s_142_156, ↓s_142_175, ↓s_142_184, ↓s_142_194, ↓s_142_215, ↓s_142_227, ↓bk_v, ↓bk_n, ↓bk_r, ↓pv_i, ↓pv_r, ↓pv_0, ↓pv_l, wz_pk, wz_ti, wz_wz, vI_wz, wz_id, wz_0, List.length_cons, List.length_nil, ↓reduceIte, true_and, and_true, Int.reduceLE, Int.reduceLT, Int.reduceEq, not_true_eq_false, not_false_eq_true, false_or, or_false, true_or, or_true, ite_not, Int.reduceNeg, Int32.reduceToInt, Nat.reduceAdd, Nat.reduceLeDiff, Nat.reduceLT, Nat.reduceEqDiff, Int.reduceAdd, Int.reduceSub, Int.reduceMul, Nat.zero_le, pk_po_ne, pk_po_eq, pk_po_ix, rI, ne_eq, r6, if_false, if_true]
      refine R143 ?_
      simp only [↓x_al_0, ↓x_c, ↓pi_142_0, ↓x_il_1, ↓x_lt0, ↓gi_142_2, ↓x_gt, ↓x_go, ↓c_119, ↓x_ne0, ↓x_ir, ↓c_134, ↓pi_142_18, ↓pi_142_19, ↓pi_142_20, ↓x_is_2, ↓x_il_2, ↓x_ge, ↓gr_142_13, ↓x_inc_2, ↓c_123, ↓x_eq0, ↓c_133, ↓c_128, ↓x_ls_3, ↓x_ll_3, ↓c_141, ↓gi_142_4, ↓c_124, ↓x_eq, ↓x_str, ↓c_129, ↓x_lcw0, ↓x_lcw1, ↓gi_142_18, ↓gi_142_19, ↓gi_142_20, ↓x_ne, ↓c_130, ↓c_139, ↓c_132, ↓gi_142_5, ↓c_143, ↓gi_142_22, ↓c_135, ↓st_148, ↓n_142, ↓s_142_0, ↓s_142_22, ↓s_142_23, ↓s_142_33, ↓s_142_73, ↓s_142_113, ↓s_142_137, ↓s_142_156, ↓s_142_175, ↓s_142_184, ↓s_142_194, ↓s_142_215, ↓s_142_227, ↓bk_v, ↓bk_n, ↓bk_r, ↓pv_i, ↓pv_r, ↓pv_0, ↓pv_l, wz_pk, wz_ti, wz_wz, vI_wz, wz_id, wz_0, List.length_cons, List.length_nil, ↓reduceIte, true_and, and_true, Int.reduceLE, Int.reduceLT, Int.reduceEq, not_true_eq_false, not_false_eq_true, false_or, or_false, true_or, or_true, ite_not, Int.reduceNeg, Int32.reduceToInt, Nat.reduceAdd, Nat.reduceLeDiff, Nat.reduceLT, Nat.reduceEqDiff, Int.reduceAdd, Int.reduceSub, Int.reduceMul, Nat.zero_le, pk_po_ne, pk_po_eq, pk_po_ix, rI, ne_eq, g22, ↓R135, f5, if_true]
      exact e
    · -- a fault
      intro k y S2 M2 hk r1 r2 r3 r4 r5 r6 a b c
      have hw1 := wz_of r4
      have hb2 : ¬ pk M2 142 5 = -1 := by rw [r4]; exact r6
      have e0 : ∀ a, ¬ a = 0 → ¬ a = 2 → (a < 33 ∨ 63 ≤ a) → su S2 2 5 y a = S a := by
        intro a e1 e2 e3
        funext j
        unfold su
        rw [if_neg (fun h => e2 h.1), r2 a e3, hs1 a e1 e2 e3]
      have kf : ∀ a i, rst a i = true → ¬ (a = 142 ∧ (i = 2 ∨ i = 8)) → pk (po M2 142 8 y) a i = pk M a i := by
        intro a i e1 e2
        rw [pk_po, if_neg (by omega), r3.2 a i ?_, ao a i e1 e2]
        simp only [rst, Bool.or_eq_true, Bool.and_eq_true, decide_eq_true_eq] at e1
        simp only [nfx, Bool.or_eq_false_iff, Bool.and_eq_false_iff, decide_eq_false_iff_not]
        omega
      have hR2 : RR (su S2 2 5 y) (po M2 142 8 y) := by
        obtain ⟨q1, q2, q3, q4, q5, q6, q7, q8, q9⟩ := hR
        have es0 : ∀ i, su S2 2 5 y 0 i = S1 0 i := fun i => by unfold su; rw [if_neg (by omega), r2 0 (by omega)]
        refine ⟨?_, ?_, ?_, (q4.sm (fun a i h => kf a i (rstH_r h) ?_)).st (fun a e1 e2 => e0 a (by omega) (by omega) (by omega)), (q5.sm (fun a i h => kf a i (rstL_r h) ?_)).st (fun a e1 e2 => e0 a (by omega) (by omega) (by omega)), ?_, ?_, ?_, fun j hj => ?_⟩
        · rw [es0, z01, pk_po_ix (by decide), r3.2 _ _ rfl]; exact a2
        · intro i e1 e2
          rw [es0, z01] at e2
          omega
        · rw [pk_po_eq, hw1]; simp [su]
        · rintro ⟨rfl, rfl | rfl⟩ <;> cases h
        · rintro ⟨rfl, rfl | rfl⟩ <;> cases h
        · have q10 := q6.sm (M' := po M2 142 8 y) (fun a i h => kf a i (rstC_r h) (by rintro ⟨rfl, rfl | rfl⟩ <;> cases h))
          unfold RRc at q10 ⊢
          simp only [e0 78 (by decide) (by decide) (by decide), e0 79 (by decide) (by decide) (by decide), e0 80 (by decide) (by decide) (by decide), e0 81 (by decide) (by decide) (by decide), e0 82 (by decide) (by decide) (by decide), e0 83 (by decide) (by decide) (by decide), e0 84 (by decide) (by decide) (by decide), e0 85 (by decide) (by decide) (by decide), e0 86 (by decide) (by decide) (by decide), e0 87 (by decide) (by decide) (by decide), e0 88 (by decide) (by decide) (by decide), e0 89 (by decide) (by decide) (by decide)]
          exact q10
        · intro i e1 e2
          rw [kf _ _ rfl (by omega), e0 105 (by decide) (by decide) (by decide)]; exact q7 i e1 e2
        · rw [es0, z011, kf _ _ rfl (by decide)]; exact q8
        · rw [es0, z011] at hj
          exact ((q9 j hj).sm (fun i => kf _ _ rfl (by omega))).st (fun k hk => e0 _ (by omega) (by omega) (by omega))
      have e := hP.ok (M' := po M2 142 8 y) (by rw [o_house, if_pos h, r1, if_neg hk]) hR2 ((hF1.trans r3.1).pw (by decide)) (by rw [pk_po_ix (by decide), r3.2 _ _ rfl]; exact a0)
      rw [s_142_215]
      simp (disch := omega) only [↓x_al_0, ↓x_c, ↓pi_142_0, ↓x_il_1, ↓x_lt0, ↓gi_142_2, ↓x_gt, ↓x_go, ↓c_119, ↓x_ne0, ↓x_ir, ↓c_134, ↓pi_142_18, ↓pi_142_19, ↓pi_142_20, ↓x_is_2, ↓x_il_2, ↓x_ge, ↓gr_142_13, ↓x_inc_2, ↓c_123, ↓x_eq0, ↓c_133, ↓c_128, ↓x_ls_3, ↓x_ll_3, ↓c_141, ↓gi_142_4, ↓c_124, ↓x_eq, ↓x_str, ↓c_129, ↓x_lcw0, ↓x_lcw1, ↓gi_142_18, ↓gi_142_19, ↓gi_142_20, ↓x_ne, ↓c_130, ↓c_139, ↓c_132, ↓gi_142_5, ↓c_143, ↓gi_142_22, ↓c_135, ↓st_148, ↓n_142, ↓s_142_0, ↓s_142_22, ↓s_142_23, ↓s_142_33, ↓s_142_73, ↓s_142_113, ↓s_142_137, ↓s_142_156, ↓s_142_175, ↓s_142_184, ↓s_142_194, ↓s_142_215, ↓s_142_227, ↓bk_v, ↓bk_n, ↓bk_r, ↓pv_i, ↓pv_r, ↓pv_0, ↓pv_l, wz_pk, wz_ti, wz_wz, vI_wz, wz_id, wz_0, List.length_cons, List.length_nil, ↓reduceIte, true_and, and_true, Int.reduceLE, Int.reduceLT, Int.reduceEq, not_true_eq_false, not_false_eq_true, false_or, or_false, true_or, or_true, ite_not, Int.reduceNeg, Int32.reduceToInt, Nat.reduceAdd, Nat.reduceLeDiff, Nat.reduceLT, Nat.reduceEqDiff, Int.reduceAdd, Int.reduceSub, Int.reduceMul, Nat.zero_le, pk_po_ne, pk_po_eq, pk_po_ix, rI, ne_eq, hb2, if_false, if_true, ↓R135, r4, r5, r6, hw1]
      exact e
  · have e := fun v => hP.no (v := v) 2 (by decide) (by rw [o_house, if_neg h]) (hR0.ref (c := 1) (k := 1) (by decide)) hF0.rfM (rfM_t rfl)
    by_cases c1 : n < 0
    · simp (disch := omega) only [↓x_al_0, ↓x_c, ↓pi_142_0, ↓x_il_1, ↓x_lt0, ↓gi_142_2, ↓x_gt, ↓x_go, ↓c_119, ↓x_ne0, ↓x_ir, ↓c_134, ↓pi_142_18, ↓pi_142_19, ↓pi_142_20, ↓x_is_2, ↓x_il_2, ↓x_ge, ↓gr_142_13, ↓x_inc_2, ↓c_123, ↓x_eq0, ↓c_133, ↓c_128, ↓x_ls_3, ↓x_ll_3, ↓c_141, ↓gi_142_4, ↓c_124, ↓x_eq, ↓x_str, ↓c_129, ↓x_lcw0, ↓x_lcw1, ↓gi_142_18, ↓gi_142_19, ↓gi_142_20, ↓x_ne, ↓c_130, ↓c_139, ↓c_132, ↓gi_142_5, ↓c_143, ↓gi_142_22, ↓c_135, ↓st_148, ↓n_142, ↓s_142_0, ↓s_142_22, ↓s_142_23, ↓s_142_33, ↓s_142_73, ↓s_142_113, ↓s_142_137, ↓s_142_156, ↓s_142_175, ↓s_142_184, ↓s_142_194, ↓s_142_215, ↓s_142_227, ↓bk_v, ↓bk_n, ↓bk_r, ↓pv_i, ↓pv_r, ↓pv_0, ↓pv_l, wz_pk, wz_ti, wz_wz, vI_wz, wz_id, wz_0, List.length_cons, List.length_nil, ↓reduceIte, true_and, and_true, Int.reduceLE, Int.reduceLT, Int.reduceEq, not_true_eq_false, not_false_eq_true, false_or, or_false, true_or, or_true, ite_not, Int.reduceNeg, Int32.reduceToInt, Nat.reduceAdd, Nat.reduceLeDiff, Nat.reduceLT, Nat.reduceEqDiff, Int.reduceAdd, Int.reduceSub, Int.reduceMul, Nat.zero_le, pk_po_ne, pk_po_eq, pk_po_ix, rI, ne_eq, hn, g0, wz_of g0, c1, if_true, ↓R119v (M := po M 142 0 0) (c := 1) (k := 1) th0 rfl (by decide) (by decide)]
      exact e _
    · have c2 : S 0 1 < n := by omega
      simp (disch := omega) only [↓x_al_0, ↓x_c, ↓pi_142_0, ↓x_il_1, ↓x_lt0, ↓gi_142_2, ↓x_gt, ↓x_go, ↓c_119, ↓x_ne0, ↓x_ir, ↓c_134, ↓pi_142_18, ↓pi_142_19, ↓pi_142_20, ↓x_is_2, ↓x_il_2, ↓x_ge, ↓gr_142_13, ↓x_inc_2, ↓c_123, ↓x_eq0, ↓c_133, ↓c_128, ↓x_ls_3, ↓x_ll_3, ↓c_141, ↓gi_142_4, ↓c_124, ↓x_eq, ↓x_str, ↓c_129, ↓x_lcw0, ↓x_lcw1, ↓gi_142_18, ↓gi_142_19, ↓gi_142_20, ↓x_ne, ↓c_130, ↓c_139, ↓c_132, ↓gi_142_5, ↓c_143, ↓gi_142_22, ↓c_135, ↓st_148, ↓n_142, ↓s_142_0, ↓s_142_22, ↓s_142_23, ↓s_142_33, ↓s_142_73, ↓s_142_113, ↓s_142_137, ↓s_142_156, ↓s_142_175, ↓s_142_184, ↓s_142_194, ↓s_142_215, ↓s_142_227, ↓bk_v, ↓bk_n, ↓bk_r, ↓pv_i, ↓pv_r, ↓pv_0, ↓pv_l, wz_pk, wz_ti, wz_wz, vI_wz, wz_id, wz_0, List.length_cons, List.length_nil, ↓reduceIte, true_and, and_true, Int.reduceLE, Int.reduceLT, Int.reduceEq, not_true_eq_false, not_false_eq_true, false_or, or_false, true_or, or_true, ite_not, Int.reduceNeg, Int32.reduceToInt, Nat.reduceAdd, Nat.reduceLeDiff, Nat.reduceLT, Nat.reduceEqDiff, Int.reduceAdd, Int.reduceSub, Int.reduceMul, Nat.zero_le, pk_po_ne, pk_po_eq, pk_po_ix, rI, ne_eq, hn, g0, wz_of g0, c1, c2, if_true, if_false, ↓R119v (M := po M 142 0 0) (c := 1) (k := 1) th0 rfl (by decide) (by decide)]
      exact e _
end R82
