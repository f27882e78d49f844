/-! A LAW THAT WAS READ IS WELL FORMED -/
def nbi (W : Int → Int) : Nat → Int
  | 0 => 0
  | m + 1 => nbi W m + if W m = 1 ∨ W m = 2 then 1 else 0
theorem nbi_rng {W : Int → Int} : ∀ m : Nat, 0 ≤ nbi W m := by
  intro m
  induction m with
  | zero => simp [nbi]
  | succ m ih => simp only [nbi]; split <;> omega
theorem nbi_congr {W V : Int → Int} : ∀ m : Nat, (∀ j : Nat, j < m → W j = V j) → nbi W m = nbi V m := by
  intro m
  induction m with
  | zero => intro _; rfl
  | succ m ih => intro h; simp only [nbi]; rw [ih (fun j hj => h j (by omega)), h m (by omega)]
theorem nbi_upi {W : Int → Int} {k c : Int} (hk : 0 ≤ k) : nbi (upi W k c) (k + 1).toNat = nbi W k.toNat + if c = 1 ∨ c = 2 then 1 else 0 := by
  rw [show (k + 1).toNat = k.toNat + 1 by omega]
  simp only [nbi]
  rw [nbi_congr k.toNat (V := W) (fun j hj => by unfold upi; rw [if_neg (by omega)])]
  rw [show upi W k c (k.toNat : Int) = c by unfold upi; rw [if_pos (by omega)]]
theorem nbi_s {W : Int → Int} {k : Int} (hk : 0 < k) : nbi W k.toNat = nbi W (k - 1).toNat + if W (k - 1) = 1 ∨ W (k - 1) = 2 then 1 else 0 := by
  rw [show k.toNat = (k - 1).toNat + 1 by omega]
  simp only [nbi]
  rw [show ((k - 1).toNat : Int) = k - 1 by omega]
theorem sl64 {S : St} {i : Int} : swSL S 64 i = S 70 i ∧ swSL S 65 i = S 71 i ∧ swSL S 66 i = S 72 i ∧ swSL S 67 i = S 73 i ∧ swSL S 63 i = S 69 i := by simp [swSL]
theorem tp_congr {S T : St} {i0 : Int} : ∀ n : Nat, (∀ m : Nat, m < n → T 64 (i0 + m) = S 64 (i0 + m)) → tp T i0 n = tp S i0 n := by
  intro n
  induction n with
  | zero => intro _; rfl
  | succ n ih => intro h; simp only [tp]; rw [ih (fun m hm => h m (by omega)), h n (by omega)]
theorem tok_congr {S T : St} {i0 : Int} {n : Nat} (h : ∀ m : Nat, m ≤ n → T 64 (i0 + m) = S 64 (i0 + m) ∧ T 65 (i0 + m) = S 65 (i0 + m) ∧ T 66 (i0 + m) = S 66 (i0 + m)) (ht : tok S i0 n) : tok T i0 n := by
  obtain ⟨a, b, c⟩ := h n (Nat.le_refl _)
  unfold tok atok at *
  rw [a, b, c, tp_congr n (fun m hm => (h m (by omega)).1)]
  exact ht
/-- the tokens from i0 on, how deep; what was before is as in S0 -/
def WT (S0 S : St) (i0 D : Int) : Prop := (0 ≤ i0 ∧ i0 ≤ S 69 1) ∧ (∀ n : Nat, n < (S 69 1 - i0).toNat → tok (swSL S) i0 n) ∧ tp (swSL S) i0 (S 69 1 - i0).toNat = D ∧ (∀ i, i < i0 → S 70 i = S0 70 i ∧ S 71 i = S0 71 i ∧ S 72 i = S0 72 i)
theorem WT.add {S0 S : St} {i0 D c b v : Int} (h : WT S0 S i0 D) (hc : 1 ≤ c ∧ c ≤ 6) (h3 : c = 3 → 1 ≤ D) (h2 : c ≤ 2 → 2 ≤ D) (ha : 4 ≤ c → 0 ≤ b ∧ b ≤ 9 ∧ 0 ≤ v ∧ v ≤ 9999 ∧ (b = 0 → c = 6) ∧ (1 ≤ b → b ≤ 3 → c ≤ 5) ∧ (4 ≤ b → c = 6 ∧ v = 1)) : WT S0 (lawAdd S c b v) i0 (D + if 4 ≤ c then 1 else if c = 3 then 0 else -1) := by
  obtain ⟨a1, a2, a3, a4⟩ := h
  have e1 := lawAdd_n (S := S) (c := c) (b := b) (v := v)
  have old : ∀ i, i < S 69 1 → swSL (lawAdd S c b v) 64 i = swSL S 64 i ∧ swSL (lawAdd S c b v) 65 i = swSL S 65 i ∧ swSL (lawAdd S c b v) 66 i = swSL S 66 i := by
    intro i hi
    rw [sl64.1, sl64.1, sl64.2.1, sl64.2.1, sl64.2.2.1, sl64.2.2.1]
    have : ¬ i = S 69 1 := by omega
    refine ⟨by simp [lawAdd, su, this], by simp [lawAdd, su, this], by simp [lawAdd, su, this]⟩
  have n1 : swSL (lawAdd S c b v) 64 (S 69 1) = c := by rw [sl64.1]; simp [lawAdd, su]
  have n2 : swSL (lawAdd S c b v) 65 (S 69 1) = b := by rw [sl64.2.1]; simp [lawAdd, su]
  have n3 : swSL (lawAdd S c b v) 66 (S 69 1) = v := by rw [sl64.2.2.1]; simp [lawAdd, su]
  have ei : i0 + ((S 69 1 - i0).toNat : Int) = S 69 1 := by omega
  have et : tp (swSL (lawAdd S c b v)) i0 (S 69 1 - i0).toNat = D := by
    rw [tp_congr (S := swSL S) _ (fun m hm => (old _ (by omega)).1)]; exact a3
  have em : (lawAdd S c b v 69 1 - i0).toNat = (S 69 1 - i0).toNat + 1 := by rw [e1]; omega
  refine ⟨⟨a1.1, by rw [e1]; omega⟩, ?_, ?_, ?_⟩
  · intro n hn
    rw [em] at hn
    by_cases d : n < (S 69 1 - i0).toNat
    · exact tok_congr (fun m hm => old _ (by omega)) (a2 n d)
    · have dn : n = (S 69 1 - i0).toNat := by omega
      unfold tok atok
      rw [dn, ei, n1, n2, n3, et]
      refine ⟨hc, h3, h2, ha⟩
  · rw [em]
    simp only [tp]
    rw [et, ei, n1]
  · intro i hi
    have : ¬ i = S 69 1 := by omega
    obtain ⟨b1, b2, b3⟩ := a4 i hi
    refine ⟨?_, ?_, ?_⟩
    · rw [← b1]; simp [lawAdd, su, this]
    · rw [← b2]; simp [lawAdd, su, this]
    · rw [← b3]; simp [lawAdd, su, this]
theorem WT.rel {S0 : St} {W : Int → Int} {i0 w : Int} (hw : 1 ≤ w) : ∀ (m : Nat) (S : St) (k : Int), k.toNat = m → 0 ≤ k → (∀ j, 0 ≤ j → j < k → 0 ≤ W j ∧ W j ≤ 3) → WT S0 S i0 (nbi W k.toNat + 1) → WT S0 (rel w S W k).1 i0 (nbi W (rel w S W k).2.toNat + 1) := by
  intro m
  induction m with
  | zero =>
    intro S k h1 h2 h3 h4
    rw [rel_un h2, if_neg (by omega)]
    exact h4
  | succ m ih =>
    intro S k h1 h2 h3 h4
    rw [rel_un h2]
    by_cases c : 0 < k ∧ w ≤ W (k - 1)
    · rw [if_pos c]
      have hW := h3 (k - 1) (by omega) (by omega)
      have hn := nbi_s (W := W) c.1
      have hr := nbi_rng (W := W) (k - 1).toNat
      rw [hn] at h4
      have h5 := h4.add (c := W (k - 1)) (b := 0) (v := 0) ⟨by omega, by omega⟩ (fun e => by rw [if_neg (by omega)]; omega) (fun e => by rw [if_pos (by omega)]; omega) (fun e => by omega)
      refine ih _ (k - 1) (by omega) (by omega) (fun j u v => h3 j u (by omega)) ?_
      have ed : nbi W (k - 1).toNat + (if W (k - 1) = 1 ∨ W (k - 1) = 2 then 1 else 0) + 1 + (if 4 ≤ W (k - 1) then 1 else if W (k - 1) = 3 then 0 else -1) = nbi W (k - 1).toNat + 1 := by
        rw [if_neg (show ¬ 4 ≤ W (k - 1) by omega)]
        by_cases d : W (k - 1) = 3
        · rw [if_pos d, if_neg (by omega)]; omega
        · rw [if_neg d, if_pos (by omega)]; omega
      rw [ed] at h5
      exact h5
    · rw [if_neg c]
      exact h4
theorem wt_atom {S0 S S' : St} {W W' : Int → Int} {k n b e x j k' i0 D : Int} (h : WT S0 S i0 D) (hD : 0 ≤ D) (hb : 0 ≤ b ∧ b ≤ 9) (hen : e ≤ n) (hla : l_atom S W k n b e = (0, x, j, S', W', k')) : WT S0 S' i0 (D + 1) ∧ W' = W ∧ k' = k := by
  have num : ∀ (c lo hi u : Int), (c = 6 ∧ b = 0 ∨ ((c = 4 ∨ c = 5) ∧ 1 ≤ b ∧ b ≤ 3)) → 0 ≤ lo → hi ≤ 9999 → u ≤ n → l_num S W k c b (rdN S n lo hi u) = (0, x, j, S', W', k') → WT S0 S' i0 (D + 1) ∧ W' = W ∧ k' = k := by
    intro c lo hi u hc h1 h2 hun hl
    unfold l_num at hl
    split at hl
    · rename_i hr
      have hr2 := rdN_e hun hr
      simp only [Prod.mk.injEq, true_and] at hl
      obtain ⟨-, -, rfl, rfl, rfl⟩ := hl
      have h5 := h.add (c := c) (b := b) (v := (rdN S n lo hi u).2.2) ⟨by omega, by omega⟩ (fun e => by omega) (fun e => by omega) (fun _ => by omega)
      rw [if_pos (by omega)] at h5
      exact ⟨h5, rfl, rfl⟩
    · rename_i hr
      simp only [Prod.mk.injEq] at hl
      exact absurd hl.1 hr
  have hs := sk_rng (S := S) hen
  unfold l_atom at hla
  split at hla
  · rename_i c1
    subst c1
    exact num 6 0 5 e (Or.inl ⟨rfl, rfl⟩) (by decide) (by decide) hen hla
  · rename_i c1
    split at hla
    · rename_i c2
      split at hla
      · exact num 4 0 9999 _ (Or.inr ⟨Or.inl rfl, by omega, c2⟩) (by decide) (by decide) (by omega) hla
      · split at hla
        · exact num 5 0 9999 _ (Or.inr ⟨Or.inr rfl, by omega, c2⟩) (by decide) (by decide) (by omega) hla
        · simp at hla
    · rename_i c2
      simp only [Prod.mk.injEq, true_and] at hla
      obtain ⟨-, -, rfl, rfl, rfl⟩ := hla
      have h5 := h.add (c := 6) (b := b) (v := 1) (by decide) (fun e => by omega) (fun e => by omega) (fun _ => by omega)
      rw [if_pos (by decide)] at h5
      exact ⟨h5, rfl, rfl⟩
theorem wt_test {S0 : St} {n i0 : Int} : ∀ (m : Nat) (j p : Int) (S : St) (W : Int → Int) (k : Int) (x j' : Int) (S' : St) (W' : Int → Int) (k' : Int), (j = 0 ∨ j = 1) → lbn S W k p n → WT S0 S i0 (nbi W k.toNat + j) → l_test n m j p S W k = (0, x, j', S', W', k') → WT S0 S' i0 1 := by
  intro m
  induction m with
  | zero => intro j p S W k x j' S' W' k' _ _ _ h; simp [l_test] at h
  | succ m ih =>
    intro j p S W k x j' S' W' k' hj hb hw h
    rw [l_test] at h
    have b0 := hb
    obtain ⟨b1, b2, b3, b4, b5⟩ := b0
    have hs := sk_rng (S := S) b4
    have hwe := we_rng (S := S) hs.2
    have nr := nbi_rng (W := W) k.toNat
    have hst : ∀ x2 j2 S2 W2 k2, (if j = 0 then l_ahead S W k n p else l_join S W k n p) = (0, x2, j2, S2, W2, k2) → lbn S2 W2 k2 x2 n ∧ ((j2 = 0 ∨ j2 = 1) → WT S0 S2 i0 (nbi W2 k2.toNat + j2)) ∧ (j2 = 2 → WT S0 S2 i0 1) ∧ (j2 = 0 ∨ j2 = 1 ∨ j2 = 2) := by
      intro x2 j2 S2 W2 k2 er
      rcases hj with rfl | rfl
      · rw [if_pos rfl] at er
        obtain ⟨g1, g2, g3, g4⟩ := lb_ahead hb er
        refine ⟨g1, fun _ => ?_, fun h => by omega, by omega⟩
        rw [Int.add_zero] at hw
        unfold l_ahead at er
        split at er
        · simp only [Prod.mk.injEq, true_and] at er
          obtain ⟨-, rfl, rfl, rfl, rfl⟩ := er
          rw [nbi_upi b2, if_neg (by decide)]
          simpa using hw
        · split at er
          · simp only [Prod.mk.injEq, true_and] at er
            obtain ⟨-, rfl, rfl, rfl, rfl⟩ := er
            rw [nbi_upi b2, if_neg (by decide)]
            simpa using hw
          · split at er
            · simp at er
            · rename_i hsu
              have sr := subj_rng (S := S) (q := sk S n p) (e := we S n (sk S n p))
              obtain ⟨w1, w2, w3⟩ := wt_atom hw nr ⟨by omega, sr.2⟩ hwe.2 er
              subst w2 w3
              have hj2 : j2 = 1 := by
                have := lb_atom ⟨b1, b2, by have := subj_e hsu; omega, hwe.2⟩ b5 er
                exact this.2.2.1
              subst hj2
              exact w1
      · rw [if_neg (by decide)] at er
        obtain ⟨g1, g2, g3, g4⟩ := lb_join hb er
        have r1 := rel_rng (w := 1) (S := S) (W := W) b2
        have r2 := rel_rng (w := 2) (S := S) (W := W) b2
        have w1 := WT.rel (w := 1) (by decide) _ S k rfl b2 b5 hw
        have w2 := WT.rel (w := 2) (by decide) _ S k rfl b2 b5 hw
        have nt := (nb_rel (W := W) (w := 1) (by decide) _ S k rfl b2).2
        refine ⟨g1, fun hj2 => ?_, fun hj2 => ?_, g3⟩
        · unfold l_join at er
          split at er
          · split at er
            · simp at er
            · rename_i hz
              simp only [Prod.mk.injEq, true_and] at er
              obtain ⟨-, rfl, rfl, rfl, rfl⟩ := er
              have hb1 := b5 ((rel 1 S W k).2 - 1) (by omega) (by omega)
              have hn := nbi_s (W := W) (k := (rel 1 S W k).2) (by omega)
              rw [if_neg (by omega), Int.add_zero] at hn
              rw [← hn]
              exact w1
          · split at er
            · split at er
              · simp only [Prod.mk.injEq, true_and] at er
                omega
              · simp at er
            · split at er
              · simp only [Prod.mk.injEq, true_and] at er
                obtain ⟨-, rfl, rfl, rfl, rfl⟩ := er
                rw [nbi_upi r2.1, if_pos (Or.inr rfl), Int.add_zero]
                exact w2
              · split at er
                · simp only [Prod.mk.injEq, true_and] at er
                  obtain ⟨-, rfl, rfl, rfl, rfl⟩ := er
                  rw [nbi_upi r1.1, if_pos (Or.inl rfl), Int.add_zero]
                  exact w1
                · simp at er
        · unfold l_join at er
          split at er
          · split at er
            · simp at er
            · simp only [Prod.mk.injEq, true_and] at er; omega
          · split at er
            · split at er
              · rename_i hz
                simp only [Prod.mk.injEq, true_and] at er
                obtain ⟨-, -, rfl, -, -⟩ := er
                rw [hz] at w1
                simpa [nbi] using w1
              · simp at er
            · split at er
              · simp only [Prod.mk.injEq, true_and] at er; omega
              · split at er
                · simp only [Prod.mk.injEq, true_and] at er; omega
                · simp at er
    generalize (if j = 0 then l_ahead S W k n p else l_join S W k n p) = r at *
    obtain ⟨r1, r2, r3, r4, r5, r6⟩ := r
    simp only at h
    split at h
    · rename_i hc
      rw [hc.1] at hst
      obtain ⟨a, b, c, d⟩ := hst _ _ _ _ _ rfl
      exact ih _ _ _ _ _ _ _ _ _ _ (by omega) a (b (by omega)) h
    · rename_i hc
      simp only [Prod.mk.injEq] at h
      obtain ⟨rfl, rfl, rfl, rfl, rfl, rfl⟩ := h
      obtain ⟨a, b, c, d⟩ := hst _ _ _ _ _ rfl
      exact c (by
        by_cases e : r3 = 2
        · exact e
        · exact absurd ⟨rfl, e⟩ hc)
theorem WT.z {S : St} {i0 : Int} (h : i0 = S 69 1) (h0 : 0 ≤ i0) : WT S S i0 0 := by
  refine ⟨⟨h0, by omega⟩, fun n hn => by omega, ?_, fun i _ => ⟨rfl, rfl, rfl⟩⟩
  rw [show (S 69 1 - i0).toNat = 0 by omega]
  rfl
theorem lag_num {S : St} {W : Int → Int} {k c b : Int} {r : Int × Int × Int} : lag S (l_num S W k c b r).2.2.2.1 := by
  unfold l_num
  split <;> exact lag.rfl.add
theorem lag_atom {S : St} {W : Int → Int} {k n b e : Int} : lag S (l_atom S W k n b e).2.2.2.1 := by
  unfold l_atom
  split
  · exact lag_num
  · split
    · split
      · exact lag_num
      · split
        · exact lag_num
        · exact lag.rfl
    · exact lag.rfl.add
theorem lag_ahead {S : St} {W : Int → Int} {k n p : Int} : lag S (l_ahead S W k n p).2.2.2.1 := by
  unfold l_ahead
  split
  · exact lag.rfl
  · split
    · exact lag.rfl
    · split
      · exact lag.rfl
      · exact lag_atom
theorem lag_join {S : St} {W : Int → Int} {k n p : Int} : lag S (l_join S W k n p).2.2.2.1 := by
  unfold l_join
  split
  · split <;> exact lag_rel
  · split
    · split <;> exact lag_rel
    · split
      · exact lag_rel
      · split
        · exact lag_rel
        · exact lag.rfl
theorem lag_test {n : Int} : ∀ (m : Nat) (j p : Int) (S : St) (W : Int → Int) (k : Int), lag S (l_test n m j p S W k).2.2.2.1 := by
  intro m
  induction m with
  | zero => intro j p S W k; exact lag.rfl
  | succ m ih =>
    intro j p S W k
    rw [l_test]
    have h : lag S (if j = 0 then l_ahead S W k n p else l_join S W k n p).2.2.2.1 := by
      split
      · exact lag_ahead
      · exact lag_join
    generalize (if j = 0 then l_ahead S W k n p else l_join S W k n p) = r at *
    obtain ⟨r1, r2, r3, r4, r5, r6⟩ := r
    simp only at *
    split
    · exact h.trans (ih _ _ _ _ _)
    · exact h
theorem wf_all {n : Int} (h3 : n ≤ 300) : ∀ (m : Nat) (c p : Int) (S : St) (i y : Int) (S2 : St), c + m = 11 → 0 ≤ c → c ≤ 10 → p ≤ n → S 69 0 = c → 0 ≤ S 69 1 → S 69 1 ≤ p → LI S → wfl (swSL S) → l_all n m c p S = (i, y, S2) → LG S S2 ∧ (i = 0 → wfl (swSL S2)) := by
  intro m
  induction m with
  | zero => intro c p S i y S2 h1 h2 h3; omega
  | succ m ih =>
    intro c p S i y S2 e1 e2 e3 hp hc hs0 hs1 hI hw h
    have hs := sk_rng (S := S) hp
    have hwe := we_rng (S := S) hs.2
    simp only [l_all] at h
    split at h
    · simp only [Prod.mk.injEq] at h
      obtain ⟨rfl, rfl, rfl⟩ := h
      exact ⟨fun _ _ => rfl, fun _ => hw⟩
    · split at h
      · split at h
        · simp only [Prod.mk.injEq] at h
          obtain ⟨rfl, rfl, rfl⟩ := h
          exact ⟨fun _ _ => rfl, fun e => by omega⟩
        · rename_i hc10
          rcases hr : l_test n 301 0 (we S n (sk S n p)) S (fun _ => 0) 0 with ⟨r1, r2, r3, r4, r5, r6⟩
          rw [hr] at h
          simp only at h
          have lb0 : lbn S (fun _ => 0) 0 (we S n (sk S n p)) n := ⟨hs0, by decide, by omega, hwe.2, fun j u v => by omega⟩
          split at h
          · rename_i hr1
            subst hr1
            obtain ⟨b1, b2, b3⟩ := lb_test 301 0 _ S _ 0 _ _ _ _ _ lb0 hr
            have wt := wt_test (S0 := S) (i0 := S 69 1) 301 0 _ S (fun _ => 0) 0 _ _ _ _ _ (Or.inl rfl) lb0 (by simpa [nbi] using WT.z (S := S) rfl hs0) hr
            obtain ⟨w1, w2, w3, w4⟩ := wt
            have h690 : r4 69 0 = c := by rw [b3.2.2]; exact hc
            have e0 : endR r4 69 0 = c + 1 := by simp [endR, su, h690]
            have e1' : endR r4 69 1 = r4 69 1 := by simp [endR, su]
            have c70 : ∀ i, endR r4 70 i = r4 70 i ∧ endR r4 71 i = r4 71 i ∧ endR r4 72 i = r4 72 i := fun i => by simp [endR, su]
            have c73 : ∀ r, ¬ r = c → endR r4 73 r = S 73 r := fun r hr => by
              have := congrFun b3.2.1 r
              simp [endR, su, h690, hr, this]
            have c73c : endR r4 73 c = r4 69 1 := by simp [endR, su, h690]
            have ln : ∀ r, r ≤ c → lst (swSL (endR r4)) r = lst (swSL S) r := fun r hr => by
              unfold lst
              by_cases d : 0 < r
              · rw [if_pos d, if_pos d, sl64.2.2.2.1, sl64.2.2.2.1, c73 _ (by omega)]
              · rw [if_neg d, if_neg d]
            have lc : lst (swSL S) c = S 69 1 := by
              unfold lst
              by_cases d : 0 < c
              · rw [if_pos d, sl64.2.2.2.1, ← hc]
                exact hI.1 (by omega)
              · rw [if_neg d]
                exact (hI.2 (by omega)).symm
            have wfe : wfl (swSL (endR r4)) := by
              refine ⟨?_, ?_, ?_, ?_⟩
              · rw [sl64.2.2.2.2, e0]; omega
              · intro r u v
                rw [sl64.2.2.2.2, e0] at v
                rw [ln r (by omega), sl64.2.2.2.1]
                by_cases d : r = c
                · subst d
                  rw [lc, c73c]
                  omega
                · have := hw.ends r u (by rw [sl64.2.2.2.2, hc]; omega)
                  rw [sl64.2.2.2.1] at this
                  rw [c73 r d]
                  exact this
              · intro r u v nn hn
                rw [sl64.2.2.2.2, e0] at v
                by_cases d : r = c
                · subst d
                  have lg : lgt (swSL (endR r4)) r = (r4 69 1 - S 69 1).toNat := by
                    unfold lgt
                    rw [ln r (by omega), lc, sl64.2.2.2.1, c73c]
                  rw [ln r (by omega), lc]
                  rw [lg] at hn
                  exact tok_congr (fun m hm => by rw [sl64.1, sl64.1, sl64.2.1, sl64.2.1, sl64.2.2.1, sl64.2.2.1]; exact c70 _) (w2 nn hn)
                · have lg : lgt (swSL (endR r4)) r = lgt (swSL S) r := by
                    unfold lgt
                    rw [ln r (by omega), sl64.2.2.2.1, sl64.2.2.2.1, c73 r d]
                  rw [lg] at hn
                  rw [ln r (by omega)]
                  have hv : r < swSL S 63 0 := by rw [sl64.2.2.2.2, hc]; omega
                  have en := hw.ends r u hv
                  have le := end_lend hw ⟨u, hv⟩
                  have ll : lend (swSL S) = S 69 1 := by
                    unfold lend
                    rw [sl64.2.2.2.2, sl64.2.2.2.1, if_pos (by omega)]
                    exact hI.1 (by omega)
                  refine tok_congr (fun m hm => ?_) (hw.toks r u hv nn hn)
                  have hlt : lst (swSL S) r + (m : Int) < S 69 1 := by unfold lgt at hn; omega
                  rw [sl64.1, sl64.1, sl64.2.1, sl64.2.1, sl64.2.2.1, sl64.2.2.1, (c70 _).1, (c70 _).2.1, (c70 _).2.2]
                  exact w4 _ hlt
              · intro r u v
                rw [sl64.2.2.2.2, e0] at v
                by_cases d : r = c
                · subst d
                  have lg : lgt (swSL (endR r4)) r = (r4 69 1 - S 69 1).toNat := by
                    unfold lgt
                    rw [ln r (by omega), lc, sl64.2.2.2.1, c73c]
                  rw [ln r (by omega), lc, lg, tp_congr (S := swSL r4) _ (fun m hm => by rw [sl64.1, sl64.1]; exact (c70 _).1)]
                  exact w3
                · have lg : lgt (swSL (endR r4)) r = lgt (swSL S) r := by
                    unfold lgt
                    rw [ln r (by omega), sl64.2.2.2.1, sl64.2.2.2.1, c73 r d]
                  have hv : r < swSL S 63 0 := by rw [sl64.2.2.2.2, hc]; omega
                  have en := hw.ends r u hv
                  have le := end_lend hw ⟨u, hv⟩
                  have ll : lend (swSL S) = S 69 1 := by
                    unfold lend
                    rw [sl64.2.2.2.2, sl64.2.2.2.1, if_pos (by omega)]
                    exact hI.1 (by omega)
                  rw [lg, ln r (by omega), tp_congr (S := swSL S) _ (fun m hm => by
                    have hlt : lst (swSL S) r + (m : Int) < S 69 1 := by unfold lgt at hm; omega
                    rw [sl64.1, sl64.1, (c70 _).1]
                    exact (w4 _ hlt).1)]
                  exact hw.one r u hv
            obtain ⟨z1, z2⟩ := ih (c + 1) r2 (endR r4) i y S2 (by omega) (by omega) (by omega) b1.2 e0 (by rw [e1']; exact b2.1) (by rw [e1']; exact b2.2) ⟨fun _ => by rw [e0, e1', show c + 1 - 1 = c by omega]; exact c73c, fun h => by rw [e0] at h; omega⟩ wfe h
            refine ⟨fun a ha => ?_, z2⟩
            rw [z1 a ha, ← b3.1 a ha]
            funext jj
            simp only [endR, su]
            rw [if_neg (by omega), if_neg (by omega)]
          · rename_i hr1
            simp only [Prod.mk.injEq] at h
            obtain ⟨rfl, rfl, rfl⟩ := h
            refine ⟨?_, fun e => absurd e hr1⟩
            have := lag_test (n := n) 301 0 (we S n (sk S n p)) S (fun _ => 0) 0
            rw [hr] at this
            exact this.1
      · simp only [Prod.mk.injEq] at h
        obtain ⟨rfl, rfl, rfl⟩ := h
        exact ⟨fun _ _ => rfl, fun e => by omega⟩
