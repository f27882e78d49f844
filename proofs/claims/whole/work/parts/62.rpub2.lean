section R62
variable {Q : MOut → MHp → Prop} {X : Nat × (Nat → Int32)} {s : Bool × Bool} {dh dl t : Nat} {M : Mem} {S : St}
theorem R179 {p m : Int} (hR : RR S M) (hH : hou S) (hI : crs S 78) (hp : wz p = p) (hm : wz m = m) (hP : PR X s dh dl t M Q cB (o_good S p m)) : CL 179 [.ref 142, vI p, vI m] (mkh X s dh dl t M) Q := by
  have n1 := hH.ng
  have hR0 := hR.pw (a := 142) (i := 0) (x := 0) rfl
  have hF0 : FR M (po M 142 0 0) := FR.rfl.pw (by decide)
  simp (disch := omega) only [↓x_al_0, ↓x_c, ↓pi_142_0, ↓x_il_1, ↓c_168, ↓x_eq0, ↓x_il_2, ↓c_120, ↓c_119, ↓x_ne0, ↓x_ir, ↓x_ge, ↓gr_142_15, ↓x_imul, ↓x_iadd, ↓x_go, ↓x_ne, ↓c_161, ↓gr_142_45, ↓gr_142_46, ↓ld_150, ↓ld_163, ↓ld_164, ↓n_179, ↓s_179_0, ↓s_179_29, ↓s_179_31, ↓s_179_50, ↓s_179_63, ↓s_179_77, ↓s_179_83, ↓bk_v, ↓bk_n, ↓bk_r, ↓pv_i, ↓pv_r, ↓pv_0, ↓pv_l, wz_pk, wz_ti, wz_wz, vI_wz, wz_id, wz_0, List.length_cons, List.length_nil, ↓reduceIte, true_and, and_true, Int.reduceLE, Int.reduceLT, Int.reduceEq, not_true_eq_false, not_false_eq_true, false_or, or_false, true_or, or_true, ite_not, Int.reduceNeg, Int32.reduceToInt, Nat.reduceAdd, Nat.reduceLeDiff, Nat.reduceLT, Nat.reduceEqDiff, Int.reduceAdd, Int.reduceSub, Int.reduceMul, Nat.zero_le, pk_po_ne, pk_po_eq, pk_po_ix, rI, ne_eq, ↓R168 (c := 1) hR0 hH hp th0 rfl (by decide), ↓R120, ↓R119 (M := po M 142 0 0) (c := 2) (k := 1) th0 rfl (by decide) (by decide), ↓R161 hR0 hI, hp, hm, decide_eq_true_eq]
  by_cases h : 0 ≤ p ∧ p < S 3 1
  · rw [if_pos h]
    by_cases h2 : 0 ≤ m ∧ m ≤ 5
    · have e := hP.ok (by rw [o_good, if_pos h, if_pos h2]) hR0 hF0 th0
      have g0 := hR.h.own p h.1 h.2
      have g1 := hR.h.wor p h.1 h.2
      have g2 := hR.h.kind p h.1 h.2
      have g4 := hR.c.sold p h.1 (by omega)
      have g5 := hR.c.given p h.1 (by omega)
      have q1 : p < 12 := by omega
      have q0 : 0 ≤ p := h.1
      rw [if_pos h2]
      by_cases m0 : m = 0
      · subst m0
        rw [if_neg (by decide), Int.add_zero, g0]
        exact ⟨by omega, e⟩
      · by_cases m1 : m = 1
        · subst m1
          rw [if_neg (by decide), g1]
          exact ⟨by omega, e⟩
        · by_cases m2 : m = 2
          · subst m2
            rw [if_neg (by decide), g2]
            exact ⟨by omega, e⟩
          · rw [if_pos (by omega)]
            rw [g4, g5]
            rw [if_neg m0, if_neg m1, if_neg m2] at e
            grind
    · rw [if_neg h2]
      exact hP.no 2 (by decide) (by rw [o_good, if_pos h, if_neg h2]) (hR0.ref (by decide)) hF0.rfM (rfM_t rfl)
  · rw [if_neg h]
    exact hP.no 1 (by decide) (by rw [o_good, if_neg h]) (hR0.ref (by decide)) hF0.rfM (rfM_t rfl)
theorem R180 {g p : Int} (hR : RR S M) (hH : hou S) (hg : wz g = g) (hp : wz p = p) (hP : PR X s dh dl t M Q cA (o_part S g p)) : CL 180 [.ref 142, vI g, vI p] (mkh X s dh dl t M) Q := by
  have n1 := hH.ng
  have n2 := hH.np
  have hR0 := hR.pw (a := 142) (i := 0) (x := 0) rfl
  have hF0 : FR M (po M 142 0 0) := FR.rfl.pw (by decide)
  simp (disch := omega) only [↓x_al_0, ↓x_c, ↓pi_142_0, ↓x_il_1, ↓c_168, ↓x_eq0, ↓x_il_2, ↓c_166, ↓x_ne0, ↓x_ir, ↓gr_142_15, ↓x_imul, ↓x_iadd, ↓ld_150, ↓n_180, ↓s_180_0, ↓s_180_23, ↓s_180_25, ↓bk_v, ↓bk_n, ↓bk_r, ↓pv_i, ↓pv_r, ↓pv_0, ↓pv_l, wz_pk, wz_ti, wz_wz, vI_wz, wz_id, wz_0, List.length_cons, List.length_nil, ↓reduceIte, true_and, and_true, Int.reduceLE, Int.reduceLT, Int.reduceEq, not_true_eq_false, not_false_eq_true, false_or, or_false, true_or, or_true, ite_not, Int.reduceNeg, Int32.reduceToInt, Nat.reduceAdd, Nat.reduceLeDiff, Nat.reduceLT, Nat.reduceEqDiff, Int.reduceAdd, Int.reduceSub, Int.reduceMul, Nat.zero_le, pk_po_ne, pk_po_eq, pk_po_ix, rI, ne_eq, ↓R168 (c := 1) hR0 hH hg th0 rfl (by decide), ↓R166 (c := 1) hR0 hH hp th0 rfl (by decide)]
  by_cases h : 0 ≤ g ∧ g < S 3 1
  · rw [if_pos h]
    by_cases h2 : 0 ≤ p ∧ p < S 3 0
    · have e := hP.ok (by rw [o_part, if_pos h, if_pos h2]) hR0 hF0 th0
      have g0 := hR.h.tw g p h.1 h.2 h2.1 (by omega)
      rw [if_pos h2]
      simp (disch := omega) only [↓x_al_0, ↓x_c, ↓pi_142_0, ↓x_il_1, ↓c_168, ↓x_eq0, ↓x_il_2, ↓c_166, ↓x_ne0, ↓x_ir, ↓gr_142_15, ↓x_imul, ↓x_iadd, ↓ld_150, ↓n_180, ↓s_180_0, ↓s_180_23, ↓s_180_25, ↓bk_v, ↓bk_n, ↓bk_r, ↓pv_i, ↓pv_r, ↓pv_0, ↓pv_l, wz_pk, wz_ti, wz_wz, vI_wz, wz_id, wz_0, List.length_cons, List.length_nil, ↓reduceIte, true_and, and_true, Int.reduceLE, Int.reduceLT, Int.reduceEq, not_true_eq_false, not_false_eq_true, false_or, or_false, true_or, or_true, ite_not, Int.reduceNeg, Int32.reduceToInt, Nat.reduceAdd, Nat.reduceLeDiff, Nat.reduceLT, Nat.reduceEqDiff, Int.reduceAdd, Int.reduceSub, Int.reduceMul, Nat.zero_le, pk_po_ne, pk_po_eq, pk_po_ix, rI, ne_eq, g0]
      exact ⟨by omega, e⟩
    · rw [if_neg h2]
      exact hP.no 1 (by decide) (by rw [o_part, if_pos h, if_neg h2]) (hR0.ref (by decide)) hF0.rfM (rfM_t rfl)
  · rw [if_neg h]
    exact hP.no 1 (by decide) (by rw [o_part, if_neg h]) (hR0.ref (by decide)) hF0.rfM (rfM_t rfl)
theorem R163 {i w : Int} (hR : RR S M) (hI : crs S 78) (hi : wz i = i) (hw : wz w = w) (hP : PR X s dh dl t M Q cA (o_act S i w)) : CL 163 [.ref 142, vI i, vI w] (mkh X s dh dl t M) Q := by
  have n1 := c78_acts hI
  have ga := hR.c.acts
  have hR0 := hR.pw (a := 142) (i := 0) (x := 0) rfl
  have hF0 : FR M (po M 142 0 0) := FR.rfl.pw (by decide)
  simp (disch := omega) only [↓x_al_0, ↓x_c, ↓pi_142_0, ↓x_il_2, ↓c_120, ↓c_119, ↓x_ne0, ↓x_ir, ↓x_il_1, ↓gi_142_49, ↓x_isub, ↓x_eq0, ↓gr_142_43, ↓x_imul, ↓x_iadd, ↓x_go, ↓ld_161, ↓n_163, ↓s_163_0, ↓s_163_22, ↓s_163_49, ↓s_163_50, ↓bk_v, ↓bk_n, ↓bk_r, ↓pv_i, ↓pv_r, ↓pv_0, ↓pv_l, wz_pk, wz_ti, wz_wz, vI_wz, wz_id, wz_0, List.length_cons, List.length_nil, ↓reduceIte, true_and, and_true, Int.reduceLE, Int.reduceLT, Int.reduceEq, not_true_eq_false, not_false_eq_true, false_or, or_false, true_or, or_true, ite_not, Int.reduceNeg, Int32.reduceToInt, Nat.reduceAdd, Nat.reduceLeDiff, Nat.reduceLT, Nat.reduceEqDiff, Int.reduceAdd, Int.reduceSub, Int.reduceMul, Nat.zero_le, pk_po_ne, pk_po_eq, pk_po_ix, rI, ne_eq, ↓R120, ↓R119 (M := po M 142 0 0) (c := 1) (k := 1) th0 rfl (by decide) (by decide), hi, hw, decide_eq_true_eq, ga, bi_wz, bi_0, decide_eq_false_iff_not]
  by_cases h : 0 ≤ w ∧ w ≤ 3
  · rw [if_pos h]
    have e := hP.ok (by rw [o_act, if_pos h]) hR0 hF0 th0
    by_cases h2 : 0 ≤ i ∧ i < S 78 0
    · have g0 := hR.c.ad i h2.1 h2.2
      have g1 := hR.c.ag i h2.1 h2.2
      have g2 := hR.c.am i h2.1 h2.2
      have g3 := hR.c.ao i h2.1 h2.2
      have hw4 : w = 0 ∨ w = 1 ∨ w = 2 ∨ w = 3 := by omega
      rw [if_pos h2] at e
      rw [if_pos (by omega)]
      rcases hw4 with rfl | rfl | rfl | rfl
      · rw [Int.add_zero, g0]
        exact ⟨by omega, e⟩
      · rw [g1]
        exact ⟨by omega, e⟩
      · rw [g2]
        exact ⟨by omega, e⟩
      · rw [g3]
        exact ⟨by omega, e⟩
    · rw [if_neg h2] at e
      rw [if_neg (by omega)]
      exact e
  · rw [if_neg h]
    exact hP.no 2 (by decide) (by rw [o_act, if_neg h]) (hR0.ref (by decide)) hF0.rfM (rfM_t rfl)
theorem RRc.row {a : Nat} {M' : Mem} {S' : St} (h : RRc S M) (hM : ∀ b i, b ≠ a → pk M' b i = pk M b i) (hS : ∀ b, 78 ≤ b → b < 90 → S' b = S b) (ha : a ≠ 142 ∧ ¬ (161 ≤ a ∧ a ≤ 166)) : RRc S' M' := by
  have h2 : RRc S M' := h.sm (fun b i hb => hM b i (by rintro rfl; simp [rstC] at hb; omega))
  unfold RRc at *
  simp only [hS 78 (by decide) (by decide), hS 79 (by decide) (by decide), hS 80 (by decide) (by decide), hS 81 (by decide) (by decide), hS 82 (by decide) (by decide), hS 83 (by decide) (by decide), hS 84 (by decide) (by decide), hS 85 (by decide) (by decide), hS 86 (by decide) (by decide), hS 87 (by decide) (by decide), hS 88 (by decide) (by decide), hS 89 (by decide) (by decide)]
  exact h2
/-- one number of a row of the course changes on both sides -/
theorem RR.row {a b : Nat} {i x n : Int} (h : RR S M) (hab : (a = 162 ∧ b = 86 ∧ n = 4) ∨ (a = 163 ∧ b = 83 ∧ n = 12) ∨ (a = 164 ∧ b = 84 ∧ n = 12) ∨ (a = 165 ∧ b = 85 ∧ n = 6)) (hx : wz x = x) : RR (su S b i x) (po M a i x) := by
  have hs : ∀ c j, ¬ (c = a ∧ j = i) → pk (po M a i x) c j = pk M c j := fun c j h => by rw [pk_po, if_neg h]
  have ha : 162 ≤ a ∧ a ≤ 165 := by omega
  refine h.upC (fun c hc => by funext j; unfold su; rw [if_neg (by omega)]) (fun c j h1 h2 => hs c j (by rintro ⟨rfl, rfl⟩; simp [rstC] at h2; omega)) ?_
  obtain ⟨b1, b2, b3, b4, b5, b6, b7, b8, b9, b10, b11, b12, b13⟩ := h.c
  have e : ∀ c j, c ≠ b → su S b i x c j = S c j := fun c j hc => by unfold su; rw [if_neg (fun h => hc h.1)]
  have hb : b ≠ 78 ∧ b ≠ 79 ∧ b ≠ 80 ∧ b ≠ 81 ∧ b ≠ 82 ∧ b ≠ 87 ∧ b ≠ 88 ∧ b ≠ 89 := by omega
  have up : ∀ (c d : Nat) (j : Int), (c = a ↔ d = b) → pk M c j = S d j → pk (po M a i x) c j = su S b i x d j := by
    intro c d j hcd hv
    rw [pk_po]
    unfold su
    by_cases hc : c = a ∧ j = i
    · rw [if_pos hc, if_pos ⟨hcd.mp hc.1, hc.2⟩]; exact hx
    · rw [if_neg hc, if_neg (fun h => hc ⟨hcd.mpr h.1, h.2⟩)]; exact hv
  have e78 : ∀ j, su S b i x 78 j = S 78 j := fun j => e 78 j (fun h => hb.1 h.symm)
  refine ⟨?_, ?_, ?_, ?_, ?_, ?_, ?_, ?_, ?_, ?_, ?_, ?_, ?_⟩
  · rw [e78, hs _ _ (by omega)]; exact b1
  · intro j u v; rw [e78] at v; rw [hs _ _ (by omega), e 79 _ (by omega)]; exact b2 j u v
  · intro j u v; rw [e78] at v; rw [hs _ _ (by omega), e 80 _ (by omega)]; exact b3 j u v
  · intro j u v; rw [e78] at v; rw [hs _ _ (by omega), e 81 _ (by omega)]; exact b4 j u v
  · intro j u v; rw [e78] at v; rw [hs _ _ (by omega), e 82 _ (by omega)]; exact b5 j u v
  · intro j u v; exact up 162 86 _ (by omega) (b6 j u v)
  · intro j u v; exact up 163 83 _ (by omega) (b7 j u v)
  · intro j u v; exact up 164 84 _ (by omega) (b8 j u v)
  · intro j u v; exact up 165 85 _ (by omega) (b9 j u v)
  · rw [e78, hs _ _ (by omega)]; exact b10
  · intro j u v; rw [e78] at v; rw [hs _ _ (by omega), e 87 _ (by omega)]; exact b11 j u v
  · intro j u v; rw [e78] at v; rw [hs _ _ (by omega), e 88 _ (by omega)]; exact b12 j u v
  · intro j u v; rw [e78] at v; rw [hs _ _ (by omega), e 89 _ (by omega)]; exact b13 j u v
theorem R169 {p k : Int} (hR : RR S M) (hH : hou S) (hI : crs S 78) (hp : wz p = p) (hk : wz k = k) (hP : PR X s dh dl t M Q cB (o_stage S p k)) : CL 169 [.ref 142, vI p, vI k] (mkh X s dh dl t M) Q := by
  have n1 := hH.np
  have hR0 := hR.pw (a := 142) (i := 0) (x := 0) rfl
  have hF0 : FR M (po M 142 0 0) := FR.rfl.pw (by decide)
  simp (disch := omega) only [↓x_al_0, ↓x_c, ↓pi_142_0, ↓x_il_1, ↓c_166, ↓x_eq0, ↓x_il_2, ↓c_120, ↓c_119, ↓x_ne0, ↓x_ir, ↓gr_142_44, ↓x_lt, ↓c_165, ↓x_isub, ↓x_is_3, ↓x_il_3, ↓ld_162, ↓st_162, ↓n_169, ↓s_169_0, ↓s_169_29, ↓s_169_31, ↓s_169_43, ↓bk_v, ↓bk_n, ↓bk_r, ↓pv_i, ↓pv_r, ↓pv_0, ↓pv_l, wz_pk, wz_ti, wz_wz, vI_wz, wz_id, wz_0, List.length_cons, List.length_nil, ↓reduceIte, true_and, and_true, Int.reduceLE, Int.reduceLT, Int.reduceEq, not_true_eq_false, not_false_eq_true, false_or, or_false, true_or, or_true, ite_not, Int.reduceNeg, Int32.reduceToInt, Nat.reduceAdd, Nat.reduceLeDiff, Nat.reduceLT, Nat.reduceEqDiff, Int.reduceAdd, Int.reduceSub, Int.reduceMul, Nat.zero_le, pk_po_ne, pk_po_eq, pk_po_ix, rI, ne_eq, ↓R166 (c := 1) hR0 hH hp th0 rfl (by decide), ↓R120, ↓R119 (M := po M 142 0 0) (c := 2) (k := 1) th0 rfl (by decide) (by decide), hp, hk, decide_eq_true_eq]
  by_cases h : 0 ≤ p ∧ p < S 3 0
  · rw [if_pos h]
    by_cases h2 : 0 ≤ k ∧ k ≤ 3
    · rw [if_pos h2]
      have g0 := hR.c.stage p h.1 (by omega)
      have hs := c78_stage hI p h.1 (by omega)
      have q1 : p < 4 := by omega
      have q0 : 0 ≤ p := h.1
      by_cases h3 : k ≤ S 86 p
      · have e := hP.ok (by rw [o_stage, if_pos h, if_pos h2, if_pos h3]) hR0 hF0 th0
        have h3' : ¬ S 86 p < k := by omega
        simp (disch := omega) only [↓x_al_0, ↓x_c, ↓pi_142_0, ↓x_il_1, ↓c_166, ↓x_eq0, ↓x_il_2, ↓c_120, ↓c_119, ↓x_ne0, ↓x_ir, ↓gr_142_44, ↓x_lt, ↓c_165, ↓x_isub, ↓x_is_3, ↓x_il_3, ↓ld_162, ↓st_162, ↓n_169, ↓s_169_0, ↓s_169_29, ↓s_169_31, ↓s_169_43, ↓bk_v, ↓bk_n, ↓bk_r, ↓pv_i, ↓pv_r, ↓pv_0, ↓pv_l, wz_pk, wz_ti, wz_wz, vI_wz, wz_id, wz_0, List.length_cons, List.length_nil, ↓reduceIte, true_and, and_true, Int.reduceLE, Int.reduceLT, Int.reduceEq, not_true_eq_false, not_false_eq_true, false_or, or_false, true_or, or_true, ite_not, Int.reduceNeg, Int32.reduceToInt, Nat.reduceAdd, Nat.reduceLeDiff, Nat.reduceLT, Nat.reduceEqDiff, Int.reduceAdd, Int.reduceSub, Int.reduceMul, Nat.zero_le, pk_po_ne, pk_po_eq, pk_po_ix, rI, ne_eq, g0, q1, q0, wz_of g0, h3', h3, if_false, if_true]
        exact e
      · have e := hP.ok (M' := po (po M 142 0 0) 162 p k) (by rw [o_stage, if_pos h, if_pos h2, if_neg h3]) (hR0.row (n := 4) (Or.inl ⟨rfl, rfl, rfl⟩) hk) (hF0.pw (by decide)) (by rw [pk_po_ne (by decide)]; exact th0)
        have h3' : S 86 p < k := by omega
        simp (disch := omega) only [↓x_al_0, ↓x_c, ↓pi_142_0, ↓x_il_1, ↓c_166, ↓x_eq0, ↓x_il_2, ↓c_120, ↓c_119, ↓x_ne0, ↓x_ir, ↓gr_142_44, ↓x_lt, ↓c_165, ↓x_isub, ↓x_is_3, ↓x_il_3, ↓ld_162, ↓st_162, ↓n_169, ↓s_169_0, ↓s_169_29, ↓s_169_31, ↓s_169_43, ↓bk_v, ↓bk_n, ↓bk_r, ↓pv_i, ↓pv_r, ↓pv_0, ↓pv_l, wz_pk, wz_ti, wz_wz, vI_wz, wz_id, wz_0, List.length_cons, List.length_nil, ↓reduceIte, true_and, and_true, Int.reduceLE, Int.reduceLT, Int.reduceEq, not_true_eq_false, not_false_eq_true, false_or, or_false, true_or, or_true, ite_not, Int.reduceNeg, Int32.reduceToInt, Nat.reduceAdd, Nat.reduceLeDiff, Nat.reduceLT, Nat.reduceEqDiff, Int.reduceAdd, Int.reduceSub, Int.reduceMul, Nat.zero_le, pk_po_ne, pk_po_eq, pk_po_ix, rI, ne_eq, g0, q1, q0, wz_of g0, h3', h3, if_false, if_true, ↓R165 hR0 (show -1 ≤ k by omega) h2.2, ↓R165 hR0 hs.1 hs.2]
        exact e
    · rw [if_neg h2]
      exact hP.no 2 (by decide) (by rw [o_stage, if_pos h, if_neg h2]) (hR0.ref (by decide)) hF0.rfM (rfM_t rfl)
  · rw [if_neg h]
    exact hP.no 1 (by decide) (by rw [o_stage, if_neg h]) (hR0.ref (by decide)) hF0.rfM (rfM_t rfl)
theorem RRc.prm {d m k : Int} (h : RRc S M) (n1 : 0 ≤ S 78 9 ∧ S 78 9 ≤ 8) (hd : wz d = d) (hm : wz m = m) (hk : wz k = k) : RRc (su (su (su (su S 87 (S 78 9) d) 88 (S 78 9) m) 89 (S 78 9) k) 78 9 (S 78 9 + 1)) (po (po (po (po M 166 (3 * S 78 9) d) 166 (3 * S 78 9 + 1) m) 166 (3 * S 78 9 + 2) k) 142 50 (S 78 9 + 1)) := by
  obtain ⟨b1, b2, b3, b4, b5, b6, b7, b8, b9, b10, b11, b12, b13⟩ := h
  have hw : wz (S 78 9 + 1) = S 78 9 + 1 := wz_id (by omega) (by omega)
  generalize hn : S 78 9 = n at *
  refine ⟨?_, ?_, ?_, ?_, ?_, ?_, ?_, ?_, ?_, ?_, ?_, ?_, ?_⟩
  · clear b2 b3 b4 b5 b6 b7 b8 b9 b11 b12 b13; simp only [pk_po, su]; grind
  · clear b3 b4 b5 b6 b7 b8 b9 b11 b12 b13; intro j u v; simp only [pk_po, su] at *; have := b2 j; grind
  · clear b2 b4 b5 b6 b7 b8 b9 b11 b12 b13; intro j u v; simp only [pk_po, su] at *; have := b3 j; grind
  · clear b2 b3 b5 b6 b7 b8 b9 b11 b12 b13; intro j u v; simp only [pk_po, su] at *; have := b4 j; grind
  · clear b2 b3 b4 b6 b7 b8 b9 b11 b12 b13; intro j u v; simp only [pk_po, su] at *; have := b5 j; grind
  · clear b2 b3 b4 b5 b7 b8 b9 b11 b12 b13; intro j u v; simp only [pk_po, su] at *; have := b6 j; grind
  · clear b2 b3 b4 b5 b6 b8 b9 b11 b12 b13; intro j u v; simp only [pk_po, su] at *; have := b7 j; grind
  · clear b2 b3 b4 b5 b6 b7 b9 b11 b12 b13; intro j u v; simp only [pk_po, su] at *; have := b8 j; grind
  · clear b2 b3 b4 b5 b6 b7 b8 b11 b12 b13; intro j u v; simp only [pk_po, su] at *; have := b9 j; grind
  · clear b2 b3 b4 b5 b6 b7 b8 b9 b11 b12 b13; simp only [pk_po, su]; grind
  · clear b2 b3 b4 b5 b6 b7 b8 b9 b12 b13; intro j u v; simp only [pk_po, su] at *; have := b11 j; grind
  · clear b2 b3 b4 b5 b6 b7 b8 b9 b11 b13; intro j u v; simp only [pk_po, su] at *; have := b12 j; grind
  · clear b2 b3 b4 b5 b6 b7 b8 b9 b11 b12; intro j u v; simp only [pk_po, su] at *; have := b13 j; grind
theorem R186 {d m k : Int} (hR : RR S M) (hH : hou S) (hI : crs S 78) (hd : wz d = d) (hm : wz m = m) (hk : wz k = k) (hP : PR X s dh dl t M Q cB (o_promise S d m k)) : CL 186 [.ref 142, vI d, vI m, vI k] (mkh X s dh dl t M) Q := by
  have n1 := c78_proms hI
  have gp := hR.c.proms
  have hR0 := hR.pw (a := 142) (i := 0) (x := 0) rfl
  have hF0 : FR M (po M 142 0 0) := FR.rfl.pw (by decide)
  simp (disch := omega) only [↓x_al_0, ↓x_c, ↓pi_142_0, ↓x_il_1, ↓c_167, ↓x_eq0, ↓x_il_2, ↓c_120, ↓x_il_3, ↓x_go, ↓c_119, ↓x_ne0, ↓x_ir, ↓gi_142_50, ↓x_ne, ↓gr_142_48, ↓x_imul, ↓x_iadd, ↓x_dup_i, ↓x_dup_r, ↓pi_142_50, ↓x_isub, ↓st_166, ↓n_186, ↓s_186_0, ↓s_186_40, ↓s_186_49, ↓s_186_51, ↓s_186_62, ↓bk_v, ↓bk_n, ↓bk_r, ↓pv_i, ↓pv_r, ↓pv_0, ↓pv_l, wz_pk, wz_ti, wz_wz, vI_wz, wz_id, wz_0, List.length_cons, List.length_nil, ↓reduceIte, true_and, and_true, Int.reduceLE, Int.reduceLT, Int.reduceEq, not_true_eq_false, not_false_eq_true, false_or, or_false, true_or, or_true, ite_not, Int.reduceNeg, Int32.reduceToInt, Nat.reduceAdd, Nat.reduceLeDiff, Nat.reduceLT, Nat.reduceEqDiff, Int.reduceAdd, Int.reduceSub, Int.reduceMul, Nat.zero_le, pk_po_ne, pk_po_eq, pk_po_ix, rI, ne_eq, ↓R167 (c := 1) hR0 hH hd th0 rfl (by decide), ↓R120, hm, hk, bi_wz, bi_0, decide_eq_false_iff_not, mrg]
  (try simp (disch := omega) only [↓x_al_0, ↓x_c, ↓pi_142_0, ↓x_il_1, ↓c_167, ↓x_eq0, ↓x_il_2, ↓c_120, ↓x_il_3, ↓x_go, ↓c_119, ↓x_ne0, ↓x_ir, ↓gi_142_50, ↓x_ne, ↓gr_142_48, ↓x_imul, ↓x_iadd, ↓x_dup_i, ↓x_dup_r, ↓pi_142_50, ↓x_isub, ↓st_166, ↓n_186, ↓s_186_0, ↓s_186_40, ↓s_186_41, ↓s_186_49, ↓s_186_51, ↓s_186_62, ↓bk_v, ↓bk_n, ↓bk_r, ↓pv_i, ↓pv_r, ↓pv_0, ↓pv_l, wz_pk, wz_ti, wz_wz, vI_wz, wz_id, wz_0, List.length_cons, List.length_nil, ↓reduceIte, true_and, and_true, Int.reduceLE, Int.reduceLT, Int.reduceEq, not_true_eq_false, not_false_eq_true, false_or, or_false, true_or, or_true, ite_not, Int.reduceNeg, Int32.reduceToInt, Nat.reduceAdd, Nat.reduceLeDiff, Nat.reduceLT, Nat.reduceEqDiff, Int.reduceAdd, Int.reduceSub, Int.reduceMul, Nat.zero_le, pk_po_ne, pk_po_eq, pk_po_ix, rI, ne_eq, ↓R167 (c := 1) hR0 hH hd th0 rfl (by decide), ↓R120, hm, hk, bi_wz, bi_0, decide_eq_false_iff_not, mrg])
  by_cases h : 0 ≤ d ∧ d < S 3 2
  · rw [if_pos h]
    by_cases h2 : (1 ≤ m ∧ m ≤ 999) ∧ (0 ≤ k ∧ k ≤ 35)
    · rw [if_pos h2.1, if_pos h2.2, R119v (c := 2) (k := 1) th0 rfl (by decide) (by decide), if_neg (by decide)]
      by_cases h3 : 8 ≤ S 78 9
      · have e := hP.ok (by rw [o_promise, if_pos h, if_pos h2, if_pos h3]) hR0 hF0 th0
        have h3' : S 78 9 = 8 := by omega
        simp (disch := omega) only [↓x_al_0, ↓x_c, ↓pi_142_0, ↓x_il_1, ↓c_167, ↓x_eq0, ↓x_il_2, ↓c_120, ↓x_il_3, ↓x_go, ↓c_119, ↓x_ne0, ↓x_ir, ↓gi_142_50, ↓x_ne, ↓gr_142_48, ↓x_imul, ↓x_iadd, ↓x_dup_i, ↓x_dup_r, ↓pi_142_50, ↓x_isub, ↓st_166, ↓n_186, ↓s_186_0, ↓s_186_40, ↓s_186_41, ↓s_186_49, ↓s_186_51, ↓s_186_62, ↓bk_v, ↓bk_n, ↓bk_r, ↓pv_i, ↓pv_r, ↓pv_0, ↓pv_l, wz_pk, wz_ti, wz_wz, vI_wz, wz_id, wz_0, List.length_cons, List.length_nil, ↓reduceIte, true_and, and_true, Int.reduceLE, Int.reduceLT, Int.reduceEq, not_true_eq_false, not_false_eq_true, false_or, or_false, true_or, or_true, ite_not, Int.reduceNeg, Int32.reduceToInt, Nat.reduceAdd, Nat.reduceLeDiff, Nat.reduceLT, Nat.reduceEqDiff, Int.reduceAdd, Int.reduceSub, Int.reduceMul, Nat.zero_le, pk_po_ne, pk_po_eq, pk_po_ix, rI, ne_eq, gp, h3', if_true]
        exact e
      · have e := hP.ok (M' := po (po (po (po (po M 142 0 0) 166 (3 * S 78 9) d) 166 (3 * S 78 9 + 1) m) 166 (3 * S 78 9 + 2) k) 142 50 (S 78 9 + 1)) (by rw [o_promise, if_pos h, if_pos h2, if_neg h3]) ?_ ((((hF0.pw (by decide)).pw (by decide)).pw (by decide)).pw (by decide)) (by rw [pk_po_ix (by decide), pk_po_ne (by decide), pk_po_ne (by decide), pk_po_ne (by decide)]; exact th0)
        · have h3' : ¬ S 78 9 = 8 := by omega
          simp (disch := omega) only [↓x_al_0, ↓x_c, ↓pi_142_0, ↓x_il_1, ↓c_167, ↓x_eq0, ↓x_il_2, ↓c_120, ↓x_il_3, ↓x_go, ↓c_119, ↓x_ne0, ↓x_ir, ↓gi_142_50, ↓x_ne, ↓gr_142_48, ↓x_imul, ↓x_iadd, ↓x_dup_i, ↓x_dup_r, ↓pi_142_50, ↓x_isub, ↓st_166, ↓n_186, ↓s_186_0, ↓s_186_40, ↓s_186_41, ↓s_186_49, ↓s_186_51, ↓s_186_62, ↓bk_v, ↓bk_n, ↓bk_r, ↓pv_i, ↓pv_r, ↓pv_0, ↓pv_l, wz_pk, wz_ti, wz_wz, vI_wz, wz_id, wz_0, List.length_cons, List.length_nil, ↓reduceIte, true_and, and_true, Int.reduceLE, Int.reduceLT, Int.reduceEq, not_true_eq_false, not_false_eq_true, false_or, or_false, true_or, or_true, ite_not, Int.reduceNeg, Int32.reduceToInt, Nat.reduceAdd, Nat.reduceLeDiff, Nat.reduceLT, Nat.reduceEqDiff, Int.reduceAdd, Int.reduceSub, Int.reduceMul, Nat.zero_le, pk_po_ne, pk_po_eq, pk_po_ix, rI, ne_eq, gp, h3', if_false]
          rw [show S 78 9 + 1 - 1 = S 78 9 by omega] at *
          exact ⟨by omega, by omega, by omega, e⟩
        · refine hR0.upC (fun a ha => by funext j; simp only [su]; grind) (fun a i h1 h2 => ?_) ?_
          · simp only [rstC, Bool.or_eq_false_iff, Bool.and_eq_false_iff, decide_eq_false_iff_not] at h2
            simp only [pk_po]
            grind
          · exact hR0.c.prm n1 hd hm hk
    · have e0 : (if 1 ≤ m ∧ m ≤ 999 then if 0 ≤ k ∧ k ≤ 35 then (1 : Int) else 0 else 0) = 0 := by
        split
        · split
          · exfalso; exact h2 ⟨‹_›, ‹_›⟩
          · rfl
        · rfl
      rw [e0, R119v (c := 2) (k := 1) th0 rfl (by decide) (by decide), if_pos wz_0]
      simp (disch := omega) only [↓x_al_0, ↓x_c, ↓pi_142_0, ↓x_il_1, ↓c_167, ↓x_eq0, ↓x_il_2, ↓c_120, ↓x_il_3, ↓x_go, ↓c_119, ↓x_ne0, ↓x_ir, ↓gi_142_50, ↓x_ne, ↓gr_142_48, ↓x_imul, ↓x_iadd, ↓x_dup_i, ↓x_dup_r, ↓pi_142_50, ↓x_isub, ↓st_166, ↓n_186, ↓s_186_0, ↓s_186_40, ↓s_186_41, ↓s_186_49, ↓s_186_51, ↓s_186_62, ↓bk_v, ↓bk_n, ↓bk_r, ↓pv_i, ↓pv_r, ↓pv_0, ↓pv_l, wz_pk, wz_ti, wz_wz, vI_wz, wz_id, wz_0, List.length_cons, List.length_nil, ↓reduceIte, true_and, and_true, Int.reduceLE, Int.reduceLT, Int.reduceEq, not_true_eq_false, not_false_eq_true, false_or, or_false, true_or, or_true, ite_not, Int.reduceNeg, Int32.reduceToInt, Nat.reduceAdd, Nat.reduceLeDiff, Nat.reduceLT, Nat.reduceEqDiff, Int.reduceAdd, Int.reduceSub, Int.reduceMul, Nat.zero_le, pk_po_ne, pk_po_eq, pk_po_ix, rI, ne_eq]
      exact hP.no 2 (by decide) (by rw [o_promise, if_pos h, if_neg h2]) (hR0.ref (by decide)) hF0.rfM (rfM_t rfl)
  · rw [if_neg h]
    exact hP.no 1 (by decide) (by rw [o_promise, if_neg h]) (hR0.ref (by decide)) hF0.rfM (rfM_t rfl)
end R62
