/-! A HOUSE, clause by clause -/
def k_clause (S : St) (n : Int) (m : Bool) (q e : Int) : K3 :=
  if isW S q e (P_txt 1) = true then (if m = true ∨ 4 ≤ S 33 0 then (3, q, S) else k_person S n e)
  else if isW S q e (P_txt 2) = true then (if m = true ∨ 12 ≤ S 33 1 then (3, q, S) else k_good S n e)
  else if isW S q e (P_txt 3) = true then (if m = true ∨ 6 ≤ S 33 2 then (3, q, S) else k_debt S n e)
  else if isW S q e (P_txt 4) = true then (if m = true then (3, q, S) else k_month S n e)
  else if isW S q e (P_txt 5) = true then (if m = true then (3, q, S) else k_part S n e)
  else if isW S q e (P_txt 6) = true then (if m = true then (3, q, S) else k_claim S n e)
  else if isW S q e (P_txt 7) = true then (if m = true then (3, q, S) else k_ill S n e)
  else if isW S q e (P_txt 8) = true then (if m = true then (3, q, S) else k_fee S n e)
  else (1, q, S)
def k_all (n : Int) : Nat → Int → Int → St → K3
  | 0, _, p, S => (1, p, S)
  | k + 1, c, p, S =>
    if n ≤ sk S n p then (0, sk S n p, S)
    else
      let r := k_clause S n (decide (c = 60)) (sk S n p) (we S n (sk S n p))
      if r.1 = 0 then (if sk r.2.2 n r.2.1 < n ∧ r.2.2 1 (sk r.2.2 n r.2.1) = 59 then k_all n k (c + 1) (sk r.2.2 n r.2.1 + 1) r.2.2 else (1, sk r.2.2 n r.2.1, r.2.2)) else r
theorem bnd_0 {r : Int × Int × Int} {S : St} {g : Int → Int → K3} {x : Int} {S' : St} (h : bnd r S g = (0, x, S')) : r.1 = 0 ∧ g r.2.1 r.2.2 = (0, x, S') := by
  unfold bnd at h
  split at h
  · rename_i h1; exact ⟨h1, h⟩
  · rename_i h1
    simp only [Prod.mk.injEq] at h
    exact absurd h.1 h1
/-- outside of the house that is read nothing changes -/
def hag (S S' : St) : Prop := ∀ a, (a < 33 ∨ 63 ≤ a) → S' a = S a
theorem hag.rfl {S : St} : hag S S := fun _ _ => Eq.refl _
theorem hag.put {S S' : St} {a : Nat} {i x : Int} (h : hag S S') (ha : 33 ≤ a ∧ a < 63) : hag S (su S' a i x) := fun b hb => by
  funext j
  unfold su
  rw [if_neg (by omega), h b hb]
theorem hag.fil {S S' : St} {a : Nat} {i m x : Int} (h : hag S S') (ha : 33 ≤ a ∧ a < 63) : hag S (flS S' a i m x) := fun b hb => by
  funext j
  unfold flS
  rw [if_neg (by omega), h b hb]
theorem hag.trans {S S' S'' : St} (h : hag S S') (h2 : hag S' S'') : hag S S'' := fun a ha => by rw [h2 a ha, h a ha]
theorem rdN_e {S : St} {n lo hi p : Int} (h1 : p ≤ n) (h : (rdN S n lo hi p).1 = 0) : (lo ≤ (rdN S n lo hi p).2.2 ∧ (rdN S n lo hi p).2.2 ≤ hi) ∧ (p < (rdN S n lo hi p).2.1 ∧ (rdN S n lo hi p).2.1 ≤ n) := rdN_ok h1 (by rw [← h])
def nho (S : St) : Prop :=
  (0 ≤ S 33 0 ∧ S 33 0 ≤ 4) ∧ (0 ≤ S 33 1 ∧ S 33 1 ≤ 12) ∧ (0 ≤ S 33 2 ∧ S 33 2 ≤ 6)
  ∧ (∀ p, 0 ≤ p → p < S 33 0 → 0 ≤ S 34 p ∧ S 34 p ≤ 999) ∧ (∀ p t, 0 ≤ p → p < S 33 0 → 0 ≤ t → t < 36 → 0 ≤ S 35 (36 * p + t) ∧ S 35 (36 * p + t) ≤ 999)
  ∧ (∀ p, 0 ≤ p → p < S 33 0 → 0 ≤ S 40 p ∧ S 40 p ≤ 10000) ∧ (∀ g, 0 ≤ g → g < S 33 1 → 0 ≤ S 41 g ∧ S 41 g < S 33 0)
  ∧ (∀ g, 0 ≤ g → g < S 33 1 → 1 ≤ S 42 g ∧ S 42 g ≤ 999) ∧ (∀ g, 0 ≤ g → g < S 33 1 → 0 ≤ S 43 g ∧ S 43 g ≤ 5)
  ∧ (∀ g p, 0 ≤ g → g < S 33 1 → 0 ≤ p → p < 4 → 0 ≤ S 44 (4 * g + p) ∧ S 44 (4 * g + p) ≤ 12)
  ∧ (∀ g, 0 ≤ g → g < S 33 1 → 0 ≤ S 57 g ∧ S 57 g ≤ 10000) ∧ (∀ g, 0 ≤ g → g < S 33 1 → 0 ≤ S 58 g ∧ S 58 g ≤ 10000)
  ∧ (∀ d, 0 ≤ d → d < S 33 2 → 0 ≤ S 59 d ∧ S 59 d < S 33 0) ∧ (∀ d, 0 ≤ d → d < S 33 2 → 1 ≤ S 60 d ∧ S 60 d ≤ 9999) ∧ (∀ d, 0 ≤ d → d < S 33 2 → 0 ≤ S 61 d ∧ S 61 d ≤ 9999)
  ∧ (∀ k, 0 ≤ k → k < 4 → 0 ≤ S 62 k ∧ S 62 k ≤ 99)
  ∧ (∀ p, S 33 0 ≤ p → p < 4 → S 40 p = 10000) ∧ (∀ g, S 33 1 ≤ g → g < 12 → S 57 g = 10000 ∧ S 58 g = 10000)
theorem nho.np {S : St} (h : nho S) : (0 ≤ S 33 0 ∧ S 33 0 ≤ 4) := h.1
theorem nho.ng {S : St} (h : nho S) : (0 ≤ S 33 1 ∧ S 33 1 ≤ 12) := h.2.1
theorem nho.nd {S : St} (h : nho S) : (0 ≤ S 33 2 ∧ S 33 2 ≤ 6) := h.2.2.1
theorem nho.needs {S : St} (h : nho S) : (∀ p, 0 ≤ p → p < S 33 0 → 0 ≤ S 34 p ∧ S 34 p ≤ 999) := h.2.2.2.1
theorem nho.inc {S : St} (h : nho S) : (∀ p t, 0 ≤ p → p < S 33 0 → 0 ≤ t → t < 36 → 0 ≤ S 35 (36 * p + t) ∧ S 35 (36 * p + t) ≤ 999) := h.2.2.2.2.1
theorem nho.ill {S : St} (h : nho S) : (∀ p, 0 ≤ p → p < S 33 0 → 0 ≤ S 40 p ∧ S 40 p ≤ 10000) := h.2.2.2.2.2.1
theorem nho.own {S : St} (h : nho S) : (∀ g, 0 ≤ g → g < S 33 1 → 0 ≤ S 41 g ∧ S 41 g < S 33 0) := h.2.2.2.2.2.2.1
theorem nho.wor {S : St} (h : nho S) : (∀ g, 0 ≤ g → g < S 33 1 → 1 ≤ S 42 g ∧ S 42 g ≤ 999) := h.2.2.2.2.2.2.2.1
theorem nho.kind {S : St} (h : nho S) : (∀ g, 0 ≤ g → g < S 33 1 → 0 ≤ S 43 g ∧ S 43 g ≤ 5) := h.2.2.2.2.2.2.2.2.1
theorem nho.tw {S : St} (h : nho S) : (∀ g p, 0 ≤ g → g < S 33 1 → 0 ≤ p → p < 4 → 0 ≤ S 44 (4 * g + p) ∧ S 44 (4 * g + p) ≤ 12) := h.2.2.2.2.2.2.2.2.2.1
theorem nho.said {S : St} (h : nho S) : (∀ g, 0 ≤ g → g < S 33 1 → 0 ≤ S 57 g ∧ S 57 g ≤ 10000) := h.2.2.2.2.2.2.2.2.2.2.1
theorem nho.prf {S : St} (h : nho S) : (∀ g, 0 ≤ g → g < S 33 1 → 0 ≤ S 58 g ∧ S 58 g ≤ 10000) := h.2.2.2.2.2.2.2.2.2.2.2.1
theorem nho.dbt {S : St} (h : nho S) : (∀ d, 0 ≤ d → d < S 33 2 → 0 ≤ S 59 d ∧ S 59 d < S 33 0) := h.2.2.2.2.2.2.2.2.2.2.2.2.1
theorem nho.amt {S : St} (h : nho S) : (∀ d, 0 ≤ d → d < S 33 2 → 1 ≤ S 60 d ∧ S 60 d ≤ 9999) := h.2.2.2.2.2.2.2.2.2.2.2.2.2.1
theorem nho.writ {S : St} (h : nho S) : (∀ d, 0 ≤ d → d < S 33 2 → 0 ≤ S 61 d ∧ S 61 d ≤ 9999) := h.2.2.2.2.2.2.2.2.2.2.2.2.2.2.1
theorem nho.fee {S : St} (h : nho S) : (∀ k, 0 ≤ k → k < 4 → 0 ≤ S 62 k ∧ S 62 k ≤ 99) := h.2.2.2.2.2.2.2.2.2.2.2.2.2.2.2.1
theorem nho.ill0 {S : St} (h : nho S) : (∀ p, S 33 0 ≤ p → p < 4 → S 40 p = 10000) := h.2.2.2.2.2.2.2.2.2.2.2.2.2.2.2.2.1
theorem nho.cl0 {S : St} (h : nho S) : (∀ g, S 33 1 ≤ g → g < 12 → S 57 g = 10000 ∧ S 58 g = 10000) := h.2.2.2.2.2.2.2.2.2.2.2.2.2.2.2.2.2
theorem kp_person {S S' : St} {n p x : Int} (hp : p ≤ n) (hH : nho S) (hc : S 33 0 ≤ 3) (h : k_person S n p = (0, x, S')) : nho S' ∧ (p < x ∧ x ≤ n) ∧ hag S S' := by
  unfold k_person at h
  obtain ⟨r1, h⟩ := bnd_0 h
  have a1 := rdN_e hp r1
  obtain ⟨r2, h⟩ := bnd_0 h
  have a2 := rdN_e a1.2.2 r2
  simp only [Prod.mk.injEq, true_and] at h
  generalize (rdN S n 0 999 (rdN S n 0 999 p).2.1) = u2 at *
  generalize rdN S n 0 999 p = u1 at *
  obtain ⟨rfl, rfl⟩ := h
  refine ⟨?_, by omega, ((hag.rfl.fil (by omega)).put (by omega)).put (by omega)⟩
  obtain ⟨g1, g2, g3, g4, g5, g6, g7, g8, g9, g10, g11, g12, g13, g14, g15, g16, g17, g18⟩ := hH
  refine ⟨?_, ?_, ?_, ?_, ?_, ?_, ?_, ?_, ?_, ?_, ?_, ?_, ?_, ?_, ?_, ?_, ?_, ?_⟩
  · simp [su, flS]; omega
  · simp [su, flS]; omega
  · simp [su, flS]; omega
  · clear g5 g6 g7 g8 g9 g10 g11 g12 g13 g14 g15 g16 g17 g18
    simp [su, flS]; grind
  · clear g4 g6 g7 g8 g9 g10 g11 g12 g13 g14 g15 g16 g17 g18
    simp [su, flS]; grind
  · clear g4 g5 g7 g8 g9 g10 g11 g12 g13 g14 g15 g16 g18
    simp [su, flS]; grind
  · clear g4 g5 g6 g8 g9 g10 g11 g12 g13 g14 g15 g16 g17 g18
    simp [su, flS]; grind
  · simpa [su, flS] using g8
  · simpa [su, flS] using g9
  · simpa [su, flS] using g10
  · simpa [su, flS] using g11
  · simpa [su, flS] using g12
  · clear g4 g5 g6 g7 g8 g9 g10 g11 g12 g14 g15 g16 g17 g18
    simp [su, flS]; grind
  · simpa [su, flS] using g14
  · simpa [su, flS] using g15
  · simpa [su, flS] using g16
  · clear g4 g5 g6 g7 g8 g9 g10 g11 g12 g13 g14 g15 g16 g18
    simp [su, flS]; grind
  · simpa [su, flS] using g18
theorem kp_month {S S' : St} {n p x : Int} (hp : p ≤ n) (hH : nho S) (h : k_month S n p = (0, x, S')) : nho S' ∧ (p < x ∧ x ≤ n) ∧ hag S S' := by
  unfold k_month at h
  obtain ⟨r1, h⟩ := bnd_0 h
  have a1 := rdN_e hp r1
  obtain ⟨r2, h⟩ := bnd_0 h
  have a2 := rdN_e a1.2.2 r2
  obtain ⟨r3, h⟩ := bnd_0 h
  have a3 := rdN_e a2.2.2 r3
  simp only [Prod.mk.injEq, true_and] at h
  generalize (rdN S n 0 999 (rdN S n 0 35 (rdN S n 0 (S 33 0 - 1) p).2.1).2.1) = u3 at *
  generalize (rdN S n 0 35 (rdN S n 0 (S 33 0 - 1) p).2.1) = u2 at *
  generalize (rdN S n 0 (S 33 0 - 1) p) = u1 at *
  obtain ⟨rfl, rfl⟩ := h
  refine ⟨?_, by omega, (hag.rfl.put (by omega))⟩
  obtain ⟨g1, g2, g3, g4, g5, g6, g7, g8, g9, g10, g11, g12, g13, g14, g15, g16, g17, g18⟩ := hH
  refine ⟨?_, ?_, ?_, ?_, ?_, ?_, ?_, ?_, ?_, ?_, ?_, ?_, ?_, ?_, ?_, ?_, ?_, ?_⟩
  · simp [su, flS]; omega
  · simp [su, flS]; omega
  · simp [su, flS]; omega
  · first | (simpa [su, flS] using g4) | (clear g5 g6 g7 g8 g9 g10 g11 g12 g13 g14 g15 g16 g17 g18; simp [su, flS]; grind)
  · first | (simpa [su, flS] using g5) | (clear g4 g6 g7 g8 g9 g10 g11 g12 g13 g14 g15 g16 g17 g18; simp [su, flS]; grind)
  · first | (simpa [su, flS] using g6) | (clear g4 g5 g7 g8 g9 g10 g11 g12 g13 g14 g15 g16 g17 g18; simp [su, flS]; grind)
  · first | (simpa [su, flS] using g7) | (clear g4 g5 g6 g8 g9 g10 g11 g12 g13 g14 g15 g16 g17 g18; simp [su, flS]; grind)
  · first | (simpa [su, flS] using g8) | (clear g4 g5 g6 g7 g9 g10 g11 g12 g13 g14 g15 g16 g17 g18; simp [su, flS]; grind)
  · first | (simpa [su, flS] using g9) | (clear g4 g5 g6 g7 g8 g10 g11 g12 g13 g14 g15 g16 g17 g18; simp [su, flS]; grind)
  · first | (simpa [su, flS] using g10) | (clear g4 g5 g6 g7 g8 g9 g11 g12 g13 g14 g15 g16 g17 g18; simp [su, flS]; grind)
  · first | (simpa [su, flS] using g11) | (clear g4 g5 g6 g7 g8 g9 g10 g12 g13 g14 g15 g16 g17 g18; simp [su, flS]; grind)
  · first | (simpa [su, flS] using g12) | (clear g4 g5 g6 g7 g8 g9 g10 g11 g13 g14 g15 g16 g17 g18; simp [su, flS]; grind)
  · first | (simpa [su, flS] using g13) | (clear g4 g5 g6 g7 g8 g9 g10 g11 g12 g14 g15 g16 g17 g18; simp [su, flS]; grind)
  · first | (simpa [su, flS] using g14) | (clear g4 g5 g6 g7 g8 g9 g10 g11 g12 g13 g15 g16 g17 g18; simp [su, flS]; grind)
  · first | (simpa [su, flS] using g15) | (clear g4 g5 g6 g7 g8 g9 g10 g11 g12 g13 g14 g16 g17 g18; simp [su, flS]; grind)
  · first | (simpa [su, flS] using g16) | (clear g4 g5 g6 g7 g8 g9 g10 g11 g12 g13 g14 g15 g17 g18; simp [su, flS]; grind)
  · first | (simpa [su, flS] using g17) | (clear g4 g5 g6 g7 g8 g9 g10 g11 g12 g13 g14 g15 g16 g18; simp [su, flS]; grind)
  · first | (simpa [su, flS] using g18) | (clear g4 g5 g6 g7 g8 g9 g10 g11 g12 g13 g14 g15 g16 g17; simp [su, flS]; grind)
theorem kp_good {S S' : St} {n p x : Int} (hp : p ≤ n) (hH : nho S) (hc : S 33 1 ≤ 11) (h : k_good S n p = (0, x, S')) : nho S' ∧ (p < x ∧ x ≤ n) ∧ hag S S' := by
  unfold k_good at h
  obtain ⟨r1, h⟩ := bnd_0 h
  have a1 := rdN_e hp r1
  obtain ⟨r2, h⟩ := bnd_0 h
  have a2 := rdN_e a1.2.2 r2
  obtain ⟨r3, h⟩ := bnd_0 h
  have a3 := rdN_e a2.2.2 r3
  simp only [Prod.mk.injEq, true_and] at h
  generalize (rdN S n 0 5 (rdN S n 1 999 (rdN S n 0 (S 33 0 - 1) p).2.1).2.1) = u3 at *
  generalize (rdN S n 1 999 (rdN S n 0 (S 33 0 - 1) p).2.1) = u2 at *
  generalize (rdN S n 0 (S 33 0 - 1) p) = u1 at *
  obtain ⟨rfl, rfl⟩ := h
  refine ⟨?_, by omega, (((((hag.rfl.put (by omega)).put (by omega)).put (by omega)).fil (by omega)).put (by omega)).put (by omega)⟩
  obtain ⟨g1, g2, g3, g4, g5, g6, g7, g8, g9, g10, g11, g12, g13, g14, g15, g16, g17, g18⟩ := hH
  refine ⟨?_, ?_, ?_, ?_, ?_, ?_, ?_, ?_, ?_, ?_, ?_, ?_, ?_, ?_, ?_, ?_, ?_, ?_⟩
  · simp [su, flS]; omega
  · simp [su, flS]; omega
  · simp [su, flS]; omega
  · first | (simpa [su, flS] using g4) | (clear g5 g6 g7 g8 g9 g10 g11 g12 g13 g14 g15 g16 g17 g18; simp [su, flS]; grind)
  · first | (simpa [su, flS] using g5) | (clear g4 g6 g7 g8 g9 g10 g11 g12 g13 g14 g15 g16 g17 g18; simp [su, flS]; grind)
  · first | (simpa [su, flS] using g6) | (clear g4 g5 g7 g8 g9 g10 g11 g12 g13 g14 g15 g16 g17 g18; simp [su, flS]; grind)
  · first | (simpa [su, flS] using g7) | (clear g4 g5 g6 g8 g9 g10 g11 g12 g13 g14 g15 g16 g17 g18; simp [su, flS]; grind)
  · first | (simpa [su, flS] using g8) | (clear g4 g5 g6 g7 g9 g10 g11 g12 g13 g14 g15 g16 g17 g18; simp [su, flS]; grind)
  · first | (simpa [su, flS] using g9) | (clear g4 g5 g6 g7 g8 g10 g11 g12 g13 g14 g15 g16 g17 g18; simp [su, flS]; grind)
  · first | (simpa [su, flS] using g10) | (clear g4 g5 g6 g7 g8 g9 g11 g12 g13 g14 g15 g16 g17 g18; simp [su, flS]; grind)
  · first | (simpa [su, flS] using g11) | (clear g4 g5 g6 g7 g8 g9 g10 g12 g13 g14 g15 g16 g17; simp [su, flS]; grind)
  · first | (simpa [su, flS] using g12) | (clear g4 g5 g6 g7 g8 g9 g10 g11 g13 g14 g15 g16 g17; simp [su, flS]; grind)
  · first | (simpa [su, flS] using g13) | (clear g4 g5 g6 g7 g8 g9 g10 g11 g12 g14 g15 g16 g17 g18; simp [su, flS]; grind)
  · first | (simpa [su, flS] using g14) | (clear g4 g5 g6 g7 g8 g9 g10 g11 g12 g13 g15 g16 g17 g18; simp [su, flS]; grind)
  · first | (simpa [su, flS] using g15) | (clear g4 g5 g6 g7 g8 g9 g10 g11 g12 g13 g14 g16 g17 g18; simp [su, flS]; grind)
  · first | (simpa [su, flS] using g16) | (clear g4 g5 g6 g7 g8 g9 g10 g11 g12 g13 g14 g15 g17 g18; simp [su, flS]; grind)
  · first | (simpa [su, flS] using g17) | (clear g4 g5 g6 g7 g8 g9 g10 g11 g12 g13 g14 g15 g16 g18; simp [su, flS]; grind)
  · first | (simpa [su, flS] using g18) | (clear g4 g5 g6 g7 g8 g9 g10 g11 g12 g13 g14 g15 g16 g17; simp [su, flS]; grind)
theorem kp_debt {S S' : St} {n p x : Int} (hp : p ≤ n) (hH : nho S) (hc : S 33 2 ≤ 5) (h : k_debt S n p = (0, x, S')) : nho S' ∧ (p < x ∧ x ≤ n) ∧ hag S S' := by
  unfold k_debt at h
  obtain ⟨r1, h⟩ := bnd_0 h
  have a1 := rdN_e hp r1
  obtain ⟨r2, h⟩ := bnd_0 h
  have a2 := rdN_e a1.2.2 r2
  obtain ⟨r3, h⟩ := bnd_0 h
  have a3 := rdN_e a2.2.2 r3
  simp only [Prod.mk.injEq, true_and] at h
  generalize (rdN S n 0 9999 (rdN S n 1 9999 (rdN S n 0 (S 33 0 - 1) p).2.1).2.1) = u3 at *
  generalize (rdN S n 1 9999 (rdN S n 0 (S 33 0 - 1) p).2.1) = u2 at *
  generalize (rdN S n 0 (S 33 0 - 1) p) = u1 at *
  obtain ⟨rfl, rfl⟩ := h
  refine ⟨?_, by omega, ((((hag.rfl.put (by omega)).put (by omega)).put (by omega)).put (by omega))⟩
  obtain ⟨g1, g2, g3, g4, g5, g6, g7, g8, g9, g10, g11, g12, g13, g14, g15, g16, g17, g18⟩ := hH
  refine ⟨?_, ?_, ?_, ?_, ?_, ?_, ?_, ?_, ?_, ?_, ?_, ?_, ?_, ?_, ?_, ?_, ?_, ?_⟩
  · simp [su, flS]; omega
  · simp [su, flS]; omega
  · simp [su, flS]; omega
  · first | (simpa [su, flS] using g4) | (clear g5 g6 g7 g8 g9 g10 g11 g12 g13 g14 g15 g16 g17 g18; simp [su, flS]; grind)
  · first | (simpa [su, flS] using g5) | (clear g4 g6 g7 g8 g9 g10 g11 g12 g13 g14 g15 g16 g17 g18; simp [su, flS]; grind)
  · first | (simpa [su, flS] using g6) | (clear g4 g5 g7 g8 g9 g10 g11 g12 g13 g14 g15 g16 g17 g18; simp [su, flS]; grind)
  · first | (simpa [su, flS] using g7) | (clear g4 g5 g6 g8 g9 g10 g11 g12 g13 g14 g15 g16 g17 g18; simp [su, flS]; grind)
  · first | (simpa [su, flS] using g8) | (clear g4 g5 g6 g7 g9 g10 g11 g12 g13 g14 g15 g16 g17 g18; simp [su, flS]; grind)
  · first | (simpa [su, flS] using g9) | (clear g4 g5 g6 g7 g8 g10 g11 g12 g13 g14 g15 g16 g17 g18; simp [su, flS]; grind)
  · first | (simpa [su, flS] using g10) | (clear g4 g5 g6 g7 g8 g9 g11 g12 g13 g14 g15 g16 g17 g18; simp [su, flS]; grind)
  · first | (simpa [su, flS] using g11) | (clear g4 g5 g6 g7 g8 g9 g10 g12 g13 g14 g15 g16 g17 g18; simp [su, flS]; grind)
  · first | (simpa [su, flS] using g12) | (clear g4 g5 g6 g7 g8 g9 g10 g11 g13 g14 g15 g16 g17 g18; simp [su, flS]; grind)
  · first | (simpa [su, flS] using g13) | (clear g4 g5 g6 g7 g8 g9 g10 g11 g12 g14 g15 g16 g17 g18; simp [su, flS]; grind)
  · first | (simpa [su, flS] using g14) | (clear g4 g5 g6 g7 g8 g9 g10 g11 g12 g13 g15 g16 g17 g18; simp [su, flS]; grind)
  · first | (simpa [su, flS] using g15) | (clear g4 g5 g6 g7 g8 g9 g10 g11 g12 g13 g14 g16 g17 g18; simp [su, flS]; grind)
  · first | (simpa [su, flS] using g16) | (clear g4 g5 g6 g7 g8 g9 g10 g11 g12 g13 g14 g15 g17 g18; simp [su, flS]; grind)
  · first | (simpa [su, flS] using g17) | (clear g4 g5 g6 g7 g8 g9 g10 g11 g12 g13 g14 g15 g16 g18; simp [su, flS]; grind)
  · first | (simpa [su, flS] using g18) | (clear g4 g5 g6 g7 g8 g9 g10 g11 g12 g13 g14 g15 g16 g17; simp [su, flS]; grind)
theorem kp_ill {S S' : St} {n p x : Int} (hp : p ≤ n) (hH : nho S) (h : k_ill S n p = (0, x, S')) : nho S' ∧ (p < x ∧ x ≤ n) ∧ hag S S' := by
  unfold k_ill at h
  obtain ⟨r1, h⟩ := bnd_0 h
  have a1 := rdN_e hp r1
  obtain ⟨r2, h⟩ := bnd_0 h
  have a2 := rdN_e a1.2.2 r2
  simp only [Prod.mk.injEq, true_and] at h
  generalize (rdN S n 0 9999 (rdN S n 0 (S 33 0 - 1) p).2.1) = u2 at *
  generalize (rdN S n 0 (S 33 0 - 1) p) = u1 at *
  obtain ⟨rfl, rfl⟩ := h
  refine ⟨?_, by omega, (hag.rfl.put (by omega))⟩
  obtain ⟨g1, g2, g3, g4, g5, g6, g7, g8, g9, g10, g11, g12, g13, g14, g15, g16, g17, g18⟩ := hH
  refine ⟨?_, ?_, ?_, ?_, ?_, ?_, ?_, ?_, ?_, ?_, ?_, ?_, ?_, ?_, ?_, ?_, ?_, ?_⟩
  · simp [su, flS]; omega
  · simp [su, flS]; omega
  · simp [su, flS]; omega
  · first | (simpa [su, flS] using g4) | (clear g5 g6 g7 g8 g9 g10 g11 g12 g13 g14 g15 g16 g17 g18; simp [su, flS]; grind)
  · first | (simpa [su, flS] using g5) | (clear g4 g6 g7 g8 g9 g10 g11 g12 g13 g14 g15 g16 g17 g18; simp [su, flS]; grind)
  · first | (simpa [su, flS] using g6) | (clear g4 g5 g7 g8 g9 g10 g11 g12 g13 g14 g15 g16 g17 g18; simp [su, flS]; grind)
  · first | (simpa [su, flS] using g7) | (clear g4 g5 g6 g8 g9 g10 g11 g12 g13 g14 g15 g16 g17 g18; simp [su, flS]; grind)
  · first | (simpa [su, flS] using g8) | (clear g4 g5 g6 g7 g9 g10 g11 g12 g13 g14 g15 g16 g17 g18; simp [su, flS]; grind)
  · first | (simpa [su, flS] using g9) | (clear g4 g5 g6 g7 g8 g10 g11 g12 g13 g14 g15 g16 g17 g18; simp [su, flS]; grind)
  · first | (simpa [su, flS] using g10) | (clear g4 g5 g6 g7 g8 g9 g11 g12 g13 g14 g15 g16 g17 g18; simp [su, flS]; grind)
  · first | (simpa [su, flS] using g11) | (clear g4 g5 g6 g7 g8 g9 g10 g12 g13 g14 g15 g16 g17 g18; simp [su, flS]; grind)
  · first | (simpa [su, flS] using g12) | (clear g4 g5 g6 g7 g8 g9 g10 g11 g13 g14 g15 g16 g17 g18; simp [su, flS]; grind)
  · first | (simpa [su, flS] using g13) | (clear g4 g5 g6 g7 g8 g9 g10 g11 g12 g14 g15 g16 g17 g18; simp [su, flS]; grind)
  · first | (simpa [su, flS] using g14) | (clear g4 g5 g6 g7 g8 g9 g10 g11 g12 g13 g15 g16 g17 g18; simp [su, flS]; grind)
  · first | (simpa [su, flS] using g15) | (clear g4 g5 g6 g7 g8 g9 g10 g11 g12 g13 g14 g16 g17 g18; simp [su, flS]; grind)
  · first | (simpa [su, flS] using g16) | (clear g4 g5 g6 g7 g8 g9 g10 g11 g12 g13 g14 g15 g17 g18; simp [su, flS]; grind)
  · first | (simpa [su, flS] using g17) | (clear g4 g5 g6 g7 g8 g9 g10 g11 g12 g13 g14 g15 g16 g18; simp [su, flS]; grind)
  · first | (simpa [su, flS] using g18) | (clear g4 g5 g6 g7 g8 g9 g10 g11 g12 g13 g14 g15 g16 g17; simp [su, flS]; grind)
theorem kp_fee {S S' : St} {n p x : Int} (hp : p ≤ n) (hH : nho S) (h : k_fee S n p = (0, x, S')) : nho S' ∧ (p < x ∧ x ≤ n) ∧ hag S S' := by
  unfold k_fee at h
  obtain ⟨r1, h⟩ := bnd_0 h
  have a1 := rdN_e hp r1
  obtain ⟨r2, h⟩ := bnd_0 h
  have a2 := rdN_e a1.2.2 r2
  simp only [Prod.mk.injEq, true_and] at h
  generalize (rdN S n 0 99 (rdN S n 0 3 p).2.1) = u2 at *
  generalize (rdN S n 0 3 p) = u1 at *
  obtain ⟨rfl, rfl⟩ := h
  refine ⟨?_, by omega, (hag.rfl.put (by omega))⟩
  obtain ⟨g1, g2, g3, g4, g5, g6, g7, g8, g9, g10, g11, g12, g13, g14, g15, g16, g17, g18⟩ := hH
  refine ⟨?_, ?_, ?_, ?_, ?_, ?_, ?_, ?_, ?_, ?_, ?_, ?_, ?_, ?_, ?_, ?_, ?_, ?_⟩
  · simp [su, flS]; omega
  · simp [su, flS]; omega
  · simp [su, flS]; omega
  · first | (simpa [su, flS] using g4) | (clear g5 g6 g7 g8 g9 g10 g11 g12 g13 g14 g15 g16 g17 g18; simp [su, flS]; grind)
  · first | (simpa [su, flS] using g5) | (clear g4 g6 g7 g8 g9 g10 g11 g12 g13 g14 g15 g16 g17 g18; simp [su, flS]; grind)
  · first | (simpa [su, flS] using g6) | (clear g4 g5 g7 g8 g9 g10 g11 g12 g13 g14 g15 g16 g17 g18; simp [su, flS]; grind)
  · first | (simpa [su, flS] using g7) | (clear g4 g5 g6 g8 g9 g10 g11 g12 g13 g14 g15 g16 g17 g18; simp [su, flS]; grind)
  · first | (simpa [su, flS] using g8) | (clear g4 g5 g6 g7 g9 g10 g11 g12 g13 g14 g15 g16 g17 g18; simp [su, flS]; grind)
  · first | (simpa [su, flS] using g9) | (clear g4 g5 g6 g7 g8 g10 g11 g12 g13 g14 g15 g16 g17 g18; simp [su, flS]; grind)
  · first | (simpa [su, flS] using g10) | (clear g4 g5 g6 g7 g8 g9 g11 g12 g13 g14 g15 g16 g17 g18; simp [su, flS]; grind)
  · first | (simpa [su, flS] using g11) | (clear g4 g5 g6 g7 g8 g9 g10 g12 g13 g14 g15 g16 g17 g18; simp [su, flS]; grind)
  · first | (simpa [su, flS] using g12) | (clear g4 g5 g6 g7 g8 g9 g10 g11 g13 g14 g15 g16 g17 g18; simp [su, flS]; grind)
  · first | (simpa [su, flS] using g13) | (clear g4 g5 g6 g7 g8 g9 g10 g11 g12 g14 g15 g16 g17 g18; simp [su, flS]; grind)
  · first | (simpa [su, flS] using g14) | (clear g4 g5 g6 g7 g8 g9 g10 g11 g12 g13 g15 g16 g17 g18; simp [su, flS]; grind)
  · first | (simpa [su, flS] using g15) | (clear g4 g5 g6 g7 g8 g9 g10 g11 g12 g13 g14 g16 g17 g18; simp [su, flS]; grind)
  · first | (simpa [su, flS] using g16) | (clear g4 g5 g6 g7 g8 g9 g10 g11 g12 g13 g14 g15 g17 g18; simp [su, flS]; grind)
  · first | (simpa [su, flS] using g17) | (clear g4 g5 g6 g7 g8 g9 g10 g11 g12 g13 g14 g15 g16 g18; simp [su, flS]; grind)
  · first | (simpa [su, flS] using g18) | (clear g4 g5 g6 g7 g8 g9 g10 g11 g12 g13 g14 g15 g16 g17; simp [su, flS]; grind)
theorem kp_claim {S S' : St} {n p x : Int} (hp : p ≤ n) (hH : nho S) (h : k_claim S n p = (0, x, S')) : nho S' ∧ (p < x ∧ x ≤ n) ∧ hag S S' := by
  unfold k_claim at h
  obtain ⟨r1, h⟩ := bnd_0 h
  have a1 := rdN_e hp r1
  obtain ⟨r2, h⟩ := bnd_0 h
  have a2 := rdN_e a1.2.2 r2
  obtain ⟨r3, h⟩ := bnd_0 h
  have a3 := rdN_e a2.2.2 r3
  simp only [Prod.mk.injEq, true_and] at h
  generalize (rdN S n (rdN S n 0 9999 (rdN S n 0 (S 33 1 - 1) p).2.1).2.2 10000 (rdN S n 0 9999 (rdN S n 0 (S 33 1 - 1) p).2.1).2.1) = u3 at *
  generalize (rdN S n 0 9999 (rdN S n 0 (S 33 1 - 1) p).2.1) = u2 at *
  generalize (rdN S n 0 (S 33 1 - 1) p) = u1 at *
  obtain ⟨rfl, rfl⟩ := h
  refine ⟨?_, by omega, ((hag.rfl.put (by omega)).put (by omega))⟩
  obtain ⟨g1, g2, g3, g4, g5, g6, g7, g8, g9, g10, g11, g12, g13, g14, g15, g16, g17, g18⟩ := hH
  refine ⟨?_, ?_, ?_, ?_, ?_, ?_, ?_, ?_, ?_, ?_, ?_, ?_, ?_, ?_, ?_, ?_, ?_, ?_⟩
  · simp [su, flS]; omega
  · simp [su, flS]; omega
  · simp [su, flS]; omega
  · first | (simpa [su, flS] using g4) | (clear g5 g6 g7 g8 g9 g10 g11 g12 g13 g14 g15 g16 g17 g18; simp [su, flS]; grind)
  · first | (simpa [su, flS] using g5) | (clear g4 g6 g7 g8 g9 g10 g11 g12 g13 g14 g15 g16 g17 g18; simp [su, flS]; grind)
  · first | (simpa [su, flS] using g6) | (clear g4 g5 g7 g8 g9 g10 g11 g12 g13 g14 g15 g16 g17 g18; simp [su, flS]; grind)
  · first | (simpa [su, flS] using g7) | (clear g4 g5 g6 g8 g9 g10 g11 g12 g13 g14 g15 g16 g17 g18; simp [su, flS]; grind)
  · first | (simpa [su, flS] using g8) | (clear g4 g5 g6 g7 g9 g10 g11 g12 g13 g14 g15 g16 g17 g18; simp [su, flS]; grind)
  · first | (simpa [su, flS] using g9) | (clear g4 g5 g6 g7 g8 g10 g11 g12 g13 g14 g15 g16 g17 g18; simp [su, flS]; grind)
  · first | (simpa [su, flS] using g10) | (clear g4 g5 g6 g7 g8 g9 g11 g12 g13 g14 g15 g16 g17 g18; simp [su, flS]; grind)
  · first | (simpa [su, flS] using g11) | (clear g4 g5 g6 g7 g8 g9 g10 g12 g13 g14 g15 g16 g17 g18; simp [su, flS]; grind)
  · first | (simpa [su, flS] using g12) | (clear g4 g5 g6 g7 g8 g9 g10 g11 g13 g14 g15 g16 g17 g18; simp [su, flS]; grind)
  · first | (simpa [su, flS] using g13) | (clear g4 g5 g6 g7 g8 g9 g10 g11 g12 g14 g15 g16 g17 g18; simp [su, flS]; grind)
  · first | (simpa [su, flS] using g14) | (clear g4 g5 g6 g7 g8 g9 g10 g11 g12 g13 g15 g16 g17 g18; simp [su, flS]; grind)
  · first | (simpa [su, flS] using g15) | (clear g4 g5 g6 g7 g8 g9 g10 g11 g12 g13 g14 g16 g17 g18; simp [su, flS]; grind)
  · first | (simpa [su, flS] using g16) | (clear g4 g5 g6 g7 g8 g9 g10 g11 g12 g13 g14 g15 g17 g18; simp [su, flS]; grind)
  · first | (simpa [su, flS] using g17) | (clear g4 g5 g6 g7 g8 g9 g10 g11 g12 g13 g14 g15 g16 g18; simp [su, flS]; grind)
  · first | (simpa [su, flS] using g18) | (clear g4 g5 g6 g7 g8 g9 g10 g11 g12 g13 g14 g15 g16 g17; simp [su, flS]; grind)
theorem kp_part {S S' : St} {n p x : Int} (hp : p ≤ n) (hH : nho S) (h : k_part S n p = (0, x, S')) : nho S' ∧ (p < x ∧ x ≤ n) ∧ hag S S' := by
  unfold k_part at h
  obtain ⟨r1, h⟩ := bnd_0 h
  have a1 := rdN_e hp r1
  obtain ⟨r2, h⟩ := bnd_0 h
  have a2 := rdN_e a1.2.2 r2
  split at h
  · simp at h
  · rename_i hz
    obtain ⟨r3, h⟩ := bnd_0 h
    have a3 := rdN_e a2.2.2 r3
    simp only [Prod.mk.injEq, true_and] at h
    generalize (rdN S n 1 (S 44 (4 * (rdN S n 0 (S 33 1 - 1) p).2.2 + S 41 (rdN S n 0 (S 33 1 - 1) p).2.2) - 1) (rdN S n 0 (S 33 0 - 1) (rdN S n 0 (S 33 1 - 1) p).2.1).2.1) = u3 at *
    generalize (rdN S n 0 (S 33 0 - 1) (rdN S n 0 (S 33 1 - 1) p).2.1) = u2 at *
    generalize (rdN S n 0 (S 33 1 - 1) p) = u1 at *
    obtain ⟨rfl, rfl⟩ := h
    refine ⟨?_, by omega, ((hag.rfl.put (by omega)).put (by omega))⟩
    obtain ⟨g1, g2, g3, g4, g5, g6, g7, g8, g9, g10, g11, g12, g13, g14, g15, g16, g17, g18⟩ := hH
    have b1 := g7 u1.2.2 (by omega) (by omega)
    have b2 := g10 u1.2.2 (S 41 u1.2.2) (by omega) (by omega) (by omega) (by omega)
    refine ⟨?_, ?_, ?_, ?_, ?_, ?_, ?_, ?_, ?_, ?_, ?_, ?_, ?_, ?_, ?_, ?_, ?_, ?_⟩
    · simp [su, flS]; omega
    · simp [su, flS]; omega
    · simp [su, flS]; omega
    · first | (simpa [su, flS] using g4) | (clear g5 g6 g7 g8 g9 g10 g11 g12 g13 g14 g15 g16 g17 g18; simp [su, flS]; grind)
    · first | (simpa [su, flS] using g5) | (clear g4 g6 g7 g8 g9 g10 g11 g12 g13 g14 g15 g16 g17 g18; simp [su, flS]; grind)
    · first | (simpa [su, flS] using g6) | (clear g4 g5 g7 g8 g9 g10 g11 g12 g13 g14 g15 g16 g17 g18; simp [su, flS]; grind)
    · first | (simpa [su, flS] using g7) | (clear g4 g5 g6 g8 g9 g10 g11 g12 g13 g14 g15 g16 g17 g18; simp [su, flS]; grind)
    · first | (simpa [su, flS] using g8) | (clear g4 g5 g6 g7 g9 g10 g11 g12 g13 g14 g15 g16 g17 g18; simp [su, flS]; grind)
    · first | (simpa [su, flS] using g9) | (clear g4 g5 g6 g7 g8 g10 g11 g12 g13 g14 g15 g16 g17 g18; simp [su, flS]; grind)
    · first | (simpa [su, flS] using g10) | (clear g4 g5 g6 g7 g8 g9 g11 g12 g13 g14 g15 g16 g17 g18; simp [su, flS]; grind)
    · first | (simpa [su, flS] using g11) | (clear g4 g5 g6 g7 g8 g9 g10 g12 g13 g14 g15 g16 g17 g18; simp [su, flS]; grind)
    · first | (simpa [su, flS] using g12) | (clear g4 g5 g6 g7 g8 g9 g10 g11 g13 g14 g15 g16 g17 g18; simp [su, flS]; grind)
    · first | (simpa [su, flS] using g13) | (clear g4 g5 g6 g7 g8 g9 g10 g11 g12 g14 g15 g16 g17 g18; simp [su, flS]; grind)
    · first | (simpa [su, flS] using g14) | (clear g4 g5 g6 g7 g8 g9 g10 g11 g12 g13 g15 g16 g17 g18; simp [su, flS]; grind)
    · first | (simpa [su, flS] using g15) | (clear g4 g5 g6 g7 g8 g9 g10 g11 g12 g13 g14 g16 g17 g18; simp [su, flS]; grind)
    · first | (simpa [su, flS] using g16) | (clear g4 g5 g6 g7 g8 g9 g10 g11 g12 g13 g14 g15 g17 g18; simp [su, flS]; grind)
    · first | (simpa [su, flS] using g17) | (clear g4 g5 g6 g7 g8 g9 g10 g11 g12 g13 g14 g15 g16 g18; simp [su, flS]; grind)
    · first | (simpa [su, flS] using g18) | (clear g4 g5 g6 g7 g8 g9 g10 g11 g12 g13 g14 g15 g16 g17; simp [su, flS]; grind)
