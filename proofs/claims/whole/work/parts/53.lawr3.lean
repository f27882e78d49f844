/-! the bounds of a law that is read -/
def lag (S S' : St) : Prop := (∀ a, (a < 69 ∨ 74 ≤ a) → S' a = S a) ∧ S' 73 = S 73 ∧ S' 69 0 = S 69 0
theorem lag.rfl {S : St} : lag S S := ⟨fun _ _ => Eq.refl _, Eq.refl _, Eq.refl _⟩
theorem lag.trans {S S' S'' : St} (h : lag S S') (h2 : lag S' S'') : lag S S'' := ⟨fun a ha => by rw [h2.1 a ha, h.1 a ha], by rw [h2.2.1, h.2.1], by rw [h2.2.2, h.2.2]⟩
theorem lag.add {S S' : St} {c b v : Int} (h : lag S S') : lag S (lawAdd S' c b v) := by
  obtain ⟨h1, h2, h3⟩ := h
  refine ⟨fun a ha => ?_, ?_, ?_⟩
  · rw [← h1 a ha]
    funext j
    simp only [lawAdd, su]
    rw [if_neg (by omega), if_neg (by omega), if_neg (by omega), if_neg (by omega)]
  · rw [← h2]
    funext j
    simp only [lawAdd, su]
    simp
  · rw [← h3]
    simp [lawAdd, su]
theorem lag_relF {w : Int} {W : Int → Int} : ∀ (m : Nat) (S : St) (k : Int), lag S (relF w W m S k).1 := by
  intro m
  induction m with
  | zero => intro S k; exact lag.rfl
  | succ m ih =>
    intro S k
    simp only [relF]
    split
    · exact (lag.rfl.add).trans (ih _ _)
    · exact lag.rfl
theorem lag_rel {w : Int} {S : St} {W : Int → Int} {k : Int} : lag S (rel w S W k).1 := lag_relF _ _ _
theorem lawAdd_n {S : St} {c b v : Int} : lawAdd S c b v 69 1 = S 69 1 + 1 := by simp [lawAdd, su]
theorem isW_len {S : St} {q e : Int} {w : List Int32} (h : isW S q e w = true) : e - q = w.length := by
  unfold isW at h
  simp at h
  exact h.1
theorem upi_rng {W : Int → Int} {k c : Int} (hW : ∀ j, 0 ≤ j → j < k → 0 ≤ W j ∧ W j ≤ 3) (hc : 0 ≤ c ∧ c ≤ 3) : ∀ j, 0 ≤ j → j < k + 1 → 0 ≤ upi W k c j ∧ upi W k c j ≤ 3 := by
  intro j h1 h2
  unfold upi
  split
  · exact hc
  · exact hW j h1 (by omega)
/-- what each step of the law's reader keeps -/
def lbn (S : St) (W : Int → Int) (k p n : Int) : Prop := 0 ≤ S 69 1 ∧ 0 ≤ k ∧ S 69 1 + k ≤ p ∧ p ≤ n ∧ (∀ j, 0 ≤ j → j < k → 0 ≤ W j ∧ W j ≤ 3)
theorem lb_atom {S S' : St} {W W' : Int → Int} {k n b e x j k' : Int} (hb : 0 ≤ S 69 1 ∧ 0 ≤ k ∧ S 69 1 + k < e ∧ e ≤ n) (hW : ∀ j, 0 ≤ j → j < k → 0 ≤ W j ∧ W j ≤ 3) (h : l_atom S W k n b e = (0, x, j, S', W', k')) : lbn S' W' k' x n ∧ e ≤ x ∧ j = 1 ∧ lag S S' := by
  have num : ∀ (c b lo hi u : Int), e ≤ u → u ≤ n → l_num S W k c b (rdN S n lo hi u) = (0, x, j, S', W', k') → lbn S' W' k' x n ∧ e ≤ x ∧ j = 1 ∧ lag S S' := by
    intro c b lo hi u hu hun hl
    unfold l_num at hl
    split at hl
    · rename_i hr
      have hr2 := rdN_e hun hr
      simp only [Prod.mk.injEq, true_and] at hl
      obtain ⟨rfl, rfl, rfl, rfl, rfl⟩ := hl
      exact ⟨⟨by rw [lawAdd_n]; omega, hb.2.1, by rw [lawAdd_n]; omega, by omega, hW⟩, by omega, rfl, lag.rfl.add⟩
    · rename_i hr
      simp only [Prod.mk.injEq] at hl
      exact absurd hl.1 hr
  have hs := sk_rng (S := S) hb.2.2.2
  unfold l_atom at h
  split at h
  · exact num _ _ _ _ _ (Int.le_refl _) hb.2.2.2 h
  · split at h
    · split at h
      · exact num _ _ _ _ _ (by omega) (by omega) h
      · split at h
        · exact num _ _ _ _ _ (by omega) (by omega) h
        · simp at h
    · simp only [Prod.mk.injEq, true_and] at h
      obtain ⟨rfl, rfl, rfl, rfl, rfl⟩ := h
      exact ⟨⟨by rw [lawAdd_n]; omega, hb.2.1, by rw [lawAdd_n]; omega, by omega, hW⟩, by omega, rfl, lag.rfl.add⟩
theorem subj_e {S : St} {q e : Int} (h : ¬ subj S q e = -1) : q < e := by
  by_cases hqe : q < e
  · exact hqe
  · exfalso
    apply h
    unfold subj
    have nw : ∀ j, 0 < (P_txt j).length → isW S q e (P_txt j) = true → False := fun j hj h => by have := isW_len h; omega
    rw [if_neg (fun h => nw 11 (by decide) h), if_neg (fun h => nw 12 (by decide) h), if_neg (fun h => nw 13 (by decide) h), if_neg (fun h => nw 14 (by decide) h), if_neg (fun h => nw 15 (by decide) h), if_neg (fun h => nw 16 (by decide) h), if_neg (fun h => nw 17 (by decide) h), if_neg (fun h => nw 18 (by decide) h), if_neg (fun h => nw 19 (by decide) h), if_neg (fun h => nw 20 (by decide) h)]
theorem lb_ahead {S S' : St} {W W' : Int → Int} {k n p x j k' : Int} (hb : lbn S W k p n) (h : l_ahead S W k n p = (0, x, j, S', W', k')) : lbn S' W' k' x n ∧ p < x ∧ (j = 0 ∨ j = 1) ∧ lag S S' := by
  obtain ⟨b1, b2, b3, b4, b5⟩ := hb
  have hs := sk_rng (S := S) b4
  have hw := we_rng (S := S) hs.2
  unfold l_ahead at h
  split at h
  · simp only [Prod.mk.injEq, true_and] at h
    obtain ⟨rfl, rfl, rfl, rfl, rfl⟩ := h
    exact ⟨⟨b1, by omega, by omega, by omega, upi_rng b5 (by omega)⟩, by omega, Or.inl rfl, lag.rfl⟩
  · split at h
    · rename_i h2
      have h3 := isW_len h2
      have : (P_txt 10).length = 3 := rfl
      simp only [Prod.mk.injEq, true_and] at h
      obtain ⟨rfl, rfl, rfl, rfl, rfl⟩ := h
      exact ⟨⟨b1, by omega, by omega, by omega, upi_rng b5 (by omega)⟩, by omega, Or.inl rfl, lag.rfl⟩
    · split at h
      · simp at h
      · rename_i h3
        have he := subj_e h3
        obtain ⟨g1, g2, g3, g4⟩ := lb_atom ⟨b1, b2, by omega, hw.2⟩ b5 h
        exact ⟨g1, by omega, Or.inr g3, g4⟩
theorem lb_join {S S' : St} {W W' : Int → Int} {k n p x j k' : Int} (hb : lbn S W k p n) (h : l_join S W k n p = (0, x, j, S', W', k')) : lbn S' W' k' x n ∧ p < x ∧ (j = 0 ∨ j = 1 ∨ j = 2) ∧ lag S S' := by
  obtain ⟨b1, b2, b3, b4, b5⟩ := hb
  have hs := sk_rng (S := S) b4
  have hw := we_rng (S := S) hs.2
  have r1 := rel_rng (w := 1) (S := S) (W := W) b2
  have r2 := rel_rng (w := 2) (S := S) (W := W) b2
  have hW : ∀ k2, k2 ≤ k → ∀ j, 0 ≤ j → j < k2 → 0 ≤ W j ∧ W j ≤ 3 := fun k2 hk j a b => b5 j a (by omega)
  unfold l_join at h
  split at h
  · split at h
    · simp at h
    · simp only [Prod.mk.injEq, true_and] at h
      obtain ⟨rfl, rfl, rfl, rfl, rfl⟩ := h
      exact ⟨⟨by omega, by omega, by omega, by omega, hW _ (by omega)⟩, by omega, by omega, lag_rel⟩
  · split at h
    · split at h
      · simp only [Prod.mk.injEq, true_and] at h
        obtain ⟨rfl, rfl, rfl, rfl, rfl⟩ := h
        exact ⟨⟨by omega, by omega, by omega, by omega, hW _ (by omega)⟩, by omega, by omega, lag_rel⟩
      · simp at h
    · split at h
      · rename_i h2
        have h3 := isW_len h2
        have : (P_txt 21).length = 3 := rfl
        simp only [Prod.mk.injEq, true_and] at h
        obtain ⟨rfl, rfl, rfl, rfl, rfl⟩ := h
        exact ⟨⟨by omega, by omega, by omega, by omega, upi_rng (hW _ (by omega)) (by omega)⟩, by omega, by omega, lag_rel⟩
      · split at h
        · rename_i h2
          have h3 := isW_len h2
          have : (P_txt 22).length = 2 := rfl
          simp only [Prod.mk.injEq, true_and] at h
          obtain ⟨rfl, rfl, rfl, rfl, rfl⟩ := h
          exact ⟨⟨by omega, by omega, by omega, by omega, upi_rng (hW _ (by omega)) (by omega)⟩, by omega, by omega, lag_rel⟩
        · simp at h
section C53
variable {Q : MOut → MHp → Prop} {X : Nat × (Nat → Int32)} {s : Bool × Bool} {dh dl t : Nat} {M : Mem} {S : St} {p f n k : Int} {W : Int → Int}
theorem C48 (l1 : RC S M) (l2 : pk M 2 1 = n) (l3 : pk M 2 2 = p) (h0 : 0 ≤ S 69 1 ∧ S 69 1 ≤ p) (h1 : p ≤ n) (h2 : n ≤ 300)
    (hq : ∀ x j S' W' k' M', l_test n 301 0 p S (fun _ => 0) 0 = (0, x, j, S', W', k') → RC S' M' → pk M' 2 1 = n → pk M' 2 2 = x → FC M M' → Q (rI 1) (mkh X s dh (lB s) t M'))
    (hx : ∀ i x j S' W' k' M', ¬ i = 0 → l_test n 301 0 p S (fun _ => 0) 0 = (i, x, j, S', W', k') → FX S' M M' i x → Q (rI 0) (mkh X s dh (lB s) t M')) : CL 48 [.ref 76] (mkh X s dh (lB s) t M) Q := by
  have key : ∀ (m : Nat) (c j p' : Int) (S' : St) (W' : Int → Int) (k' : Int) (M' : Mem) (bb : Value), c + m = 301 → 0 ≤ c → c ≤ p' → (j = 0 ∨ j = 1) → lbn S' W' k' p' n → l_test n m j p' S' W' k' = l_test n 301 0 p S (fun _ => 0) 0 → LRd S' W' k' n p' M' → pk M' 76 4 = (if j = 0 then 1 else 0) → pk M' 76 5 = 0 → FC M M' → EX 48 (sx 48 17) [.ref 76, vI c, bb] [] (mkh X s dh (lB s) t M') Q := by
    intro m
    induction m with
    | zero =>
      intro c j p' S' W' k' M' bb hc hc0 hcp hj hb
      obtain ⟨b1, b2, b3, b4, b5⟩ := hb
      omega
    | succ m ih =>
      intro c j p' S' W' k' M' bb hc hc0 hcp hj hb ht hL' g4 g5 hF
      have hbb := hb
      obtain ⟨b1, b2, b3, b4, b5⟩ := hb
      have e1 : ¬ 300 < c := by omega
      rw [l_test] at ht
      rw [s_48_17]
      -- what comes behind a step
      have post : ∀ (r : LR) (is : List (Nat × MI)) (pc : Nat), (r = if j = 0 then l_ahead S' W' k' n p' else l_join S' W' k' n p') → (∀ x j2 S2 W2 k2, r = (0, x, j2, S2, W2, k2) → lbn S2 W2 k2 x n ∧ p' < x ∧ (j2 = 0 ∨ j2 = 1 ∨ j2 = 2)) → (∀ h v, EX 48 is [.ref 76, vI c, bb] [vI v] h Q ↔ EX 48 (sx 48 49) [.ref 76, vI c, bb] [vI v] h Q) → LQ X s dh t M' (bk 48 pc is [.ref 76, vI c, bb] [] Q) n r := by
        intro r is pc hr hst hE
        rw [← hr] at ht
        refine ⟨fun x j2 S2 W2 k2 M2 er hL2 k4 k5 hF2 => ?_, fun i x j2 S2 W2 k2 M2 hi er hX => ?_⟩
        · obtain ⟨u1, u2, u3⟩ := hst x j2 S2 W2 k2 er
          simp only [rI, bk_v, hE]
          rw [s_48_49]
          by_cases c2 : j2 = 2
          · rw [er, if_neg (by simp [c2])] at ht
            have e := hq x j2 S2 W2 k2 M2 ht.symm hL2.1 hL2.2.1 hL2.2.2.1 (hF.trans hF2)
            rw [if_pos c2] at k5
            have e3 : c + 1 ≤ 301 := by omega
            simp (disch := omega) only [↓x_al_0, ↓x_c, ↓pi_76_3, ↓pz_76_4, ↓pz_76_5, ↓x_is_1, ↓x_il_1, ↓x_gt, ↓gi_76_5, ↓x_ne0, ↓gi_76_4, ↓x_eq0, ↓c_49, ↓x_go, ↓c_52, ↓x_is_2, ↓x_il_2, ↓x_irz, ↓x_inc_1, ↓n_48, ↓s_48_0, ↓s_48_45, ↓s_48_49, ↓s_48_56, ↓s_48_62, ↓bk_v, ↓bk_n, ↓bk_r, ↓pv_i, ↓pv_r, ↓pv_0, ↓pv_l, wz_pk, wz_ti, wz_wz, vI_wz, wz_id, wz_0, List.length_cons, List.length_nil, ↓reduceIte, true_and, and_true, Int.reduceLE, Int.reduceLT, Int.reduceEq, not_true_eq_false, not_false_eq_true, false_or, or_false, true_or, or_true, ite_not, Int.reduceNeg, Int32.reduceToInt, Nat.reduceAdd, Nat.reduceLeDiff, Nat.reduceLT, Nat.reduceEqDiff, Int.reduceAdd, Int.reduceSub, Int.reduceMul, Nat.zero_le, pk_po_ne, pk_po_eq, pk_po_ix, rI, ne_eq]
            rw [s_48_17]
            by_cases c3 : 300 < c + 1
            · simp (disch := omega) only [↓x_al_0, ↓x_c, ↓pi_76_3, ↓pz_76_4, ↓pz_76_5, ↓x_is_1, ↓x_il_1, ↓x_gt, ↓gi_76_5, ↓x_ne0, ↓gi_76_4, ↓x_eq0, ↓c_49, ↓x_go, ↓c_52, ↓x_is_2, ↓x_il_2, ↓x_irz, ↓x_inc_1, ↓n_48, ↓s_48_0, ↓s_48_45, ↓s_48_49, ↓s_48_56, ↓s_48_62, ↓bk_v, ↓bk_n, ↓bk_r, ↓pv_i, ↓pv_r, ↓pv_0, ↓pv_l, wz_pk, wz_ti, wz_wz, vI_wz, wz_id, wz_0, List.length_cons, List.length_nil, ↓reduceIte, true_and, and_true, Int.reduceLE, Int.reduceLT, Int.reduceEq, not_true_eq_false, not_false_eq_true, false_or, or_false, true_or, or_true, ite_not, Int.reduceNeg, Int32.reduceToInt, Nat.reduceAdd, Nat.reduceLeDiff, Nat.reduceLT, Nat.reduceEqDiff, Int.reduceAdd, Int.reduceSub, Int.reduceMul, Nat.zero_le, pk_po_ne, pk_po_eq, pk_po_ix, rI, ne_eq, c3, if_true, k5]
              exact e
            · simp (disch := omega) only [↓x_al_0, ↓x_c, ↓pi_76_3, ↓pz_76_4, ↓pz_76_5, ↓x_is_1, ↓x_il_1, ↓x_gt, ↓gi_76_5, ↓x_ne0, ↓gi_76_4, ↓x_eq0, ↓c_49, ↓x_go, ↓c_52, ↓x_is_2, ↓x_il_2, ↓x_irz, ↓x_inc_1, ↓n_48, ↓s_48_0, ↓s_48_45, ↓s_48_49, ↓s_48_56, ↓s_48_62, ↓bk_v, ↓bk_n, ↓bk_r, ↓pv_i, ↓pv_r, ↓pv_0, ↓pv_l, wz_pk, wz_ti, wz_wz, vI_wz, wz_id, wz_0, List.length_cons, List.length_nil, ↓reduceIte, true_and, and_true, Int.reduceLE, Int.reduceLT, Int.reduceEq, not_true_eq_false, not_false_eq_true, false_or, or_false, true_or, or_true, ite_not, Int.reduceNeg, Int32.reduceToInt, Nat.reduceAdd, Nat.reduceLeDiff, Nat.reduceLT, Nat.reduceEqDiff, Int.reduceAdd, Int.reduceSub, Int.reduceMul, Nat.zero_le, pk_po_ne, pk_po_eq, pk_po_ix, rI, ne_eq, c3, if_false, k5]
              exact e
          · rw [er, if_pos (by simp [c2])] at ht
            rw [if_neg c2] at k5
            have ih2 := ih (c + 1) j2 x S2 W2 k2 M2 (vI 1) (by omega) (by omega) (by omega) (by omega) u1 ht hL2 k4 k5 (hF.trans hF2)
            simp (disch := omega) only [↓x_al_0, ↓x_c, ↓pi_76_3, ↓pz_76_4, ↓pz_76_5, ↓x_is_1, ↓x_il_1, ↓x_gt, ↓gi_76_5, ↓x_ne0, ↓gi_76_4, ↓x_eq0, ↓c_49, ↓x_go, ↓c_52, ↓x_is_2, ↓x_il_2, ↓x_irz, ↓x_inc_1, ↓n_48, ↓s_48_0, ↓s_48_45, ↓s_48_49, ↓s_48_56, ↓s_48_62, ↓bk_v, ↓bk_n, ↓bk_r, ↓pv_i, ↓pv_r, ↓pv_0, ↓pv_l, wz_pk, wz_ti, wz_wz, vI_wz, wz_id, wz_0, List.length_cons, List.length_nil, ↓reduceIte, true_and, and_true, Int.reduceLE, Int.reduceLT, Int.reduceEq, not_true_eq_false, not_false_eq_true, false_or, or_false, true_or, or_true, ite_not, Int.reduceNeg, Int32.reduceToInt, Nat.reduceAdd, Nat.reduceLeDiff, Nat.reduceLT, Nat.reduceEqDiff, Int.reduceAdd, Int.reduceSub, Int.reduceMul, Nat.zero_le, pk_po_ne, pk_po_eq, pk_po_ix, rI, ne_eq]
            exact ih2
        · simp only [rI, bk_v, hE]
          obtain ⟨M0, x1, x2, x3⟩ := hX
          rw [er, if_neg (by simp [hi])] at ht
          have e := hx i x j2 S2 W2 k2 M2 hi ht.symm ⟨M0, x1, hF.trans x2, x3⟩
          rw [s_48_49]
          simp (disch := omega) only [↓x_al_0, ↓x_c, ↓pi_76_3, ↓pz_76_4, ↓pz_76_5, ↓x_is_1, ↓x_il_1, ↓x_gt, ↓gi_76_5, ↓x_ne0, ↓gi_76_4, ↓x_eq0, ↓c_49, ↓x_go, ↓c_52, ↓x_is_2, ↓x_il_2, ↓x_irz, ↓x_inc_1, ↓n_48, ↓s_48_0, ↓s_48_45, ↓s_48_49, ↓s_48_56, ↓s_48_62, ↓bk_v, ↓bk_n, ↓bk_r, ↓pv_i, ↓pv_r, ↓pv_0, ↓pv_l, wz_pk, wz_ti, wz_wz, vI_wz, wz_id, wz_0, List.length_cons, List.length_nil, ↓reduceIte, true_and, and_true, Int.reduceLE, Int.reduceLT, Int.reduceEq, not_true_eq_false, not_false_eq_true, false_or, or_false, true_or, or_true, ite_not, Int.reduceNeg, Int32.reduceToInt, Nat.reduceAdd, Nat.reduceLeDiff, Nat.reduceLT, Nat.reduceEqDiff, Int.reduceAdd, Int.reduceSub, Int.reduceMul, Nat.zero_le, pk_po_ne, pk_po_eq, pk_po_ix, rI, ne_eq]
          exact e
      rcases hj with hj | hj
      · subst hj
        rw [if_pos rfl] at g4
        simp (disch := omega) only [↓x_al_0, ↓x_c, ↓pi_76_3, ↓pz_76_4, ↓pz_76_5, ↓x_is_1, ↓x_il_1, ↓x_gt, ↓gi_76_5, ↓x_ne0, ↓gi_76_4, ↓x_eq0, ↓c_49, ↓x_go, ↓c_52, ↓x_is_2, ↓x_il_2, ↓x_irz, ↓x_inc_1, ↓n_48, ↓s_48_0, ↓s_48_45, ↓s_48_56, ↓s_48_62, ↓bk_v, ↓bk_n, ↓bk_r, ↓pv_i, ↓pv_r, ↓pv_0, ↓pv_l, wz_pk, wz_ti, wz_wz, vI_wz, wz_id, wz_0, List.length_cons, List.length_nil, ↓reduceIte, true_and, and_true, Int.reduceLE, Int.reduceLT, Int.reduceEq, not_true_eq_false, not_false_eq_true, false_or, or_false, true_or, or_true, ite_not, Int.reduceNeg, Int32.reduceToInt, Nat.reduceAdd, Nat.reduceLeDiff, Nat.reduceLT, Nat.reduceEqDiff, Int.reduceAdd, Int.reduceSub, Int.reduceMul, Nat.zero_le, pk_po_ne, pk_po_eq, pk_po_ix, rI, ne_eq, e1, if_false, g5, g4]
        exact C49 hL' g4 g5 (by omega) b4 h2 ⟨b1, b2, b3⟩ (post _ _ _ (by rw [if_pos rfl]) (fun x j2 S2 W2 k2 er => by obtain ⟨v1, v2, v3, v4⟩ := lb_ahead hbb er; exact ⟨v1, v2, by omega⟩) (fun h v => by simp only [↓x_al_0, ↓x_c, ↓pi_76_3, ↓pz_76_4, ↓pz_76_5, ↓x_is_1, ↓x_il_1, ↓x_gt, ↓gi_76_5, ↓x_ne0, ↓gi_76_4, ↓x_eq0, ↓c_49, ↓x_go, ↓c_52, ↓x_is_2, ↓x_il_2, ↓x_irz, ↓x_inc_1, ↓n_48, ↓s_48_0, ↓s_48_45, ↓s_48_56, ↓s_48_62, ↓bk_v, ↓bk_n, ↓bk_r, ↓pv_i, ↓pv_r, ↓pv_0, ↓pv_l, wz_pk, wz_ti, wz_wz, vI_wz, wz_id, wz_0, List.length_cons, List.length_nil, ↓reduceIte, true_and, and_true, Int.reduceLE, Int.reduceLT, Int.reduceEq, not_true_eq_false, not_false_eq_true, false_or, or_false, true_or, or_true, ite_not, Int.reduceNeg, Int32.reduceToInt, Nat.reduceAdd, Nat.reduceLeDiff, Nat.reduceLT, Nat.reduceEqDiff, Int.reduceAdd, Int.reduceSub, Int.reduceMul, Nat.zero_le, pk_po_ne, pk_po_eq, pk_po_ix, rI, ne_eq]))
      · subst hj
        rw [if_neg (by decide)] at g4
        simp (disch := omega) only [↓x_al_0, ↓x_c, ↓pi_76_3, ↓pz_76_4, ↓pz_76_5, ↓x_is_1, ↓x_il_1, ↓x_gt, ↓gi_76_5, ↓x_ne0, ↓gi_76_4, ↓x_eq0, ↓c_49, ↓x_go, ↓c_52, ↓x_is_2, ↓x_il_2, ↓x_irz, ↓x_inc_1, ↓n_48, ↓s_48_0, ↓s_48_45, ↓s_48_56, ↓s_48_62, ↓bk_v, ↓bk_n, ↓bk_r, ↓pv_i, ↓pv_r, ↓pv_0, ↓pv_l, wz_pk, wz_ti, wz_wz, vI_wz, wz_id, wz_0, List.length_cons, List.length_nil, ↓reduceIte, true_and, and_true, Int.reduceLE, Int.reduceLT, Int.reduceEq, not_true_eq_false, not_false_eq_true, false_or, or_false, true_or, or_true, ite_not, Int.reduceNeg, Int32.reduceToInt, Nat.reduceAdd, Nat.reduceLeDiff, Nat.reduceLT, Nat.reduceEqDiff, Int.reduceAdd, Int.reduceSub, Int.reduceMul, Nat.zero_le, pk_po_ne, pk_po_eq, pk_po_ix, rI, ne_eq, e1, if_false, if_true, g5, g4]
        exact C52 hL' b5 g4 g5 (by omega) b4 h2 ⟨b1, b2, b3⟩ (post _ _ _ (by rw [if_neg (by decide)]) (fun x j2 S2 W2 k2 er => by obtain ⟨v1, v2, v3, v4⟩ := lb_join hbb er; exact ⟨v1, v2, by omega⟩) (fun h v => by simp only [↓x_al_0, ↓x_c, ↓pi_76_3, ↓pz_76_4, ↓pz_76_5, ↓x_is_1, ↓x_il_1, ↓x_gt, ↓gi_76_5, ↓x_ne0, ↓gi_76_4, ↓x_eq0, ↓c_49, ↓x_go, ↓c_52, ↓x_is_2, ↓x_il_2, ↓x_irz, ↓x_inc_1, ↓n_48, ↓s_48_0, ↓s_48_45, ↓s_48_56, ↓s_48_62, ↓bk_v, ↓bk_n, ↓bk_r, ↓pv_i, ↓pv_r, ↓pv_0, ↓pv_l, wz_pk, wz_ti, wz_wz, vI_wz, wz_id, wz_0, List.length_cons, List.length_nil, ↓reduceIte, true_and, and_true, Int.reduceLE, Int.reduceLT, Int.reduceEq, not_true_eq_false, not_false_eq_true, false_or, or_false, true_or, or_true, ite_not, Int.reduceNeg, Int32.reduceToInt, Nat.reduceAdd, Nat.reduceLeDiff, Nat.reduceLT, Nat.reduceEqDiff, Int.reduceAdd, Int.reduceSub, Int.reduceMul, Nat.zero_le, pk_po_ne, pk_po_eq, pk_po_ix, rI, ne_eq]))
  have k0 := key 301 0 0 p S (fun _ => 0) 0 (po (po (po M 76 3 0) 76 4 1) 76 5 0) .null (by decide) (by decide) (by omega) (Or.inl rfl) ⟨h0.1, by omega, by omega, h1, fun j a b => by omega⟩ rfl ⟨((l1.pw (a := 76) rfl (by decide)).pw (a := 76) rfl (by decide)).pw (a := 76) rfl (by decide), by rw [pk_po_ne (by decide), pk_po_ne (by decide), pk_po_ne (by decide)]; exact l2, by rw [pk_po_ne (by decide), pk_po_ne (by decide), pk_po_ne (by decide)]; exact l3, by rw [pk_po_ix (by decide), pk_po_ix (by decide), pk_po_eq]; rfl, fun j a b => by omega⟩ (by rw [pk_po_ix (by decide), pk_po_eq]; rfl) (by rw [pk_po_eq]; rfl) (((FC.rfl.pw (by decide)).pw (by decide)).pw (by decide))
  simp only [↓x_al_0, ↓x_c, ↓pi_76_3, ↓pz_76_4, ↓pz_76_5, ↓x_is_1, ↓x_il_1, ↓x_gt, ↓gi_76_5, ↓x_ne0, ↓gi_76_4, ↓x_eq0, ↓c_49, ↓x_go, ↓c_52, ↓x_is_2, ↓x_il_2, ↓x_irz, ↓x_inc_1, ↓n_48, ↓s_48_0, ↓s_48_45, ↓s_48_49, ↓s_48_56, ↓s_48_62, ↓bk_v, ↓bk_n, ↓bk_r, ↓pv_i, ↓pv_r, ↓pv_0, ↓pv_l, wz_pk, wz_ti, wz_wz, vI_wz, wz_id, wz_0, List.length_cons, List.length_nil, ↓reduceIte, true_and, and_true, Int.reduceLE, Int.reduceLT, Int.reduceEq, not_true_eq_false, not_false_eq_true, false_or, or_false, true_or, or_true, ite_not, Int.reduceNeg, Int32.reduceToInt, Nat.reduceAdd, Nat.reduceLeDiff, Nat.reduceLT, Nat.reduceEqDiff, Int.reduceAdd, Int.reduceSub, Int.reduceMul, Nat.zero_le, pk_po_ne, pk_po_eq, pk_po_ix, rI, ne_eq]
  exact k0
end C53
