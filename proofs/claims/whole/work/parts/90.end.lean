/-! THE END -/
def S0 : St := fun a i => pk M0 a i
theorem RC0 : RC S0 M0 := ⟨fun _ _ _ => rfl, rfl⟩
theorem m00 {a : Nat} {i : Int} (h : ¬ ((a = 2 ∧ i = 5) ∨ (a = 142 ∧ i = 8) ∨ ((a = 83 ∨ a = 111 ∨ a = 123 ∨ a = 135 ∨ a = 163) ∧ 0 ≤ i ∧ i < 12) ∨ ((a = 86 ∨ a = 114 ∨ a = 126 ∨ a = 138 ∨ a = 162) ∧ 0 ≤ i ∧ i < 4))) : pk M0 a i = 0 := by
  unfold pk M0
  rw [if_neg h]
  rfl
theorem m01 {a : Nat} {i : Int} (h : (a = 2 ∧ i = 5) ∨ (a = 142 ∧ i = 8) ∨ ((a = 83 ∨ a = 111 ∨ a = 123 ∨ a = 135 ∨ a = 163) ∧ 0 ≤ i ∧ i < 12) ∨ ((a = 86 ∨ a = 114 ∨ a = 126 ∨ a = 138 ∨ a = 162) ∧ 0 ≤ i ∧ i < 4)) : pk M0 a i = -1 := by
  unfold pk M0
  rw [if_pos h]
  rfl
theorem S00 {a : Nat} {i : Int} (h : ¬ ((a = 2 ∧ i = 5) ∨ (a = 142 ∧ i = 8) ∨ ((a = 83 ∨ a = 111 ∨ a = 123 ∨ a = 135 ∨ a = 163) ∧ 0 ≤ i ∧ i < 12) ∨ ((a = 86 ∨ a = 114 ∨ a = 126 ∨ a = 138 ∨ a = 162) ∧ 0 ≤ i ∧ i < 4))) : S0 a i = 0 := m00 h
theorem S01 {a : Nat} {i : Int} (h : (a = 2 ∧ i = 5) ∨ (a = 142 ∧ i = 8) ∨ ((a = 83 ∨ a = 111 ∨ a = 123 ∨ a = 135 ∨ a = 163) ∧ 0 ≤ i ∧ i < 12) ∨ ((a = 86 ∨ a = 114 ∨ a = 126 ∨ a = 138 ∨ a = 162) ∧ 0 ≤ i ∧ i < 4)) : S0 a i = -1 := m01 h
theorem RR0 : RR S0 M0 := by
  have n0 : S0 3 0 = 0 := S00 (by omega)
  have n1 : S0 3 1 = 0 := S00 (by omega)
  have n2 : S0 3 2 = 0 := S00 (by omega)
  have l0 : S0 63 0 = 0 := S00 (by omega)
  have a0 : S0 78 0 = 0 := S00 (by omega)
  have a9 : S0 78 9 = 0 := S00 (by omega)
  have t0 : S0 0 1 = 0 := S00 (by omega)
  have g0 : S0 0 11 = 0 := S00 (by omega)
  refine ⟨?_, ?_, ?_, ?_, ?_, ?_, ?_, ?_, ?_⟩
  · rw [t0]; exact m00 (by omega)
  · intro i u v; rw [t0] at v; omega
  · rw [m01 (by omega), S01 (by omega)]
  · unfold RRh
    rw [n0, n1, n2]
    refine ⟨m00 (by omega), m00 (by omega), m00 (by omega), fun i u v => by omega, fun i j u v => by omega, fun i u v => by omega, fun i u v => by omega, fun i u v => by omega, fun i u v => by omega, fun i u v => by omega, fun i u v => by omega, fun i j u v => by omega, fun i u v => by omega, fun i u v => by omega, fun i u v => by omega, fun k u v => ?_⟩
    rw [m00 (by omega), S00 (by omega)]
  · have ln : lend S0 = 0 := by unfold lend; rw [l0]; rfl
    unfold RRl
    rw [l0, ln]
    exact ⟨m00 (by omega), m00 (by omega), fun i u v => by omega, fun i u v => by omega, fun i u v => by omega⟩
  · unfold RRc
    rw [a0, a9]
    refine ⟨m00 (by omega), fun i u v => by omega, fun i u v => by omega, fun i u v => by omega, fun i u v => by omega, fun i u v => ?_, fun i u v => ?_, fun i u v => ?_, fun i u v => ?_, m00 (by omega), fun i u v => by omega, fun i u v => by omega, fun i u v => by omega⟩
    · rw [m01 (by omega), S01 (by omega)]
    · rw [m01 (by omega), S01 (by omega)]
    · rw [m00 (by omega), S00 (by omega)]
    · rw [m00 (by omega), S00 (by omega)]
  · intro k u v; rw [m00 (by omega), S00 (by omega)]
  · rw [g0]; exact m00 (by omega)
  · intro j hj; rw [g0] at hj; omega
theorem INV0 : INV S0 := by
  have n0 : S0 3 0 = 0 := S00 (by omega)
  have n1 : S0 3 1 = 0 := S00 (by omega)
  have n2 : S0 3 2 = 0 := S00 (by omega)
  have l0 : S0 63 0 = 0 := S00 (by omega)
  have a0 : S0 78 0 = 0 := S00 (by omega)
  have a9 : S0 78 9 = 0 := S00 (by omega)
  have t0 : S0 0 1 = 0 := S00 (by omega)
  have g0 : S0 0 11 = 0 := S00 (by omega)
  refine ⟨?_, ?_, ?_, by rw [t0]; omega, by rw [g0]; omega, fun j hj => by rw [g0] at hj; omega⟩
  · unfold hou
    rw [n0, n1, n2]
    refine ⟨by omega, by omega, by omega, fun i u v => by omega, fun i j u v => by omega, fun i u v => by omega, fun i u v => by omega, fun i u v => by omega, fun i u v => by omega, fun i j u v => by omega, fun i u v => by omega, fun i u v => by omega, fun i u v => by omega, fun i u v => by omega, fun i u v => by omega, fun k u v => ?_⟩
    rw [S00 (by omega)]; omega
  · unfold wfl
    rw [l0]
    exact ⟨by omega, fun i u v => by omega, fun i u v => by omega, fun i u v => by omega⟩
  · unfold crs
    rw [a0, a9]
    refine ⟨by omega, fun i u v => by omega, fun i u v => by omega, fun i u v => by omega, fun i u v => by omega, fun i u v => ?_, fun i u v => ?_, fun i u v => ?_, fun i u v => ?_, by omega, fun i u v => by omega, fun i u v => by omega, fun i u v => by omega⟩
    · rw [S01 (by omega)]; omega
    · rw [S00 (by omega)]; omega
    · rw [S00 (by omega)]; omega
    · rw [S01 (by omega)]; omega
theorem whole_pure : e_Goal := by
  intro L xs hL
  have hstart := ck_start
  rcases hrp : rp 3000 pre225 [.ref mS, .null, .null, .null, .null, .null, .null] [] hD with _ | ⟨l, st, hE⟩
  · rw [hrp] at hstart; cases hstart
  · rw [hrp] at hstart
    simp only [Bool.and_eq_true] at hstart
    obtain ⟨⟨h1, h2⟩, h3⟩ := hstart
    have h1 := vleq_is h1
    have h2 := vleq_is h2
    subst h1 h2
    have he0 : HE (.inl (0, L, .inl xs)) hD (h_0 L xs) := by
      refine ⟨rfl, rfl, rfl, by show 0 ≤ 51000; omega, ?_, fun a ha => ?_⟩
      · show (if mS = mS then (.inl (0, L, .inl xs) : MCell) else .inl (0, 0, .inl (fun _ => 0))) = _
        rw [if_pos rfl]
      · rcases ha with ha | ha
        · exact absurd ha (by show ¬ a < 0; omega)
        · subst ha
          exact Or.inl ⟨0, fun _ => 0, by unfold hD; show (if mS = mS then (.inl (7, 0, .inl (fun _ => 0)) : MCell) else .inl (0, 0, .inl (fun _ => 0))) = _; exact if_pos rfl⟩
    obtain ⟨hr2, q1, q2⟩ := rp_HE pre225 _ _ _ _ he0 hrp
    obtain ⟨e1, e2, e3, e4, e5, e6⟩ := q2
    unfold ckD at h3
    simp only [Bool.and_eq_true, decide_eq_true_eq] at h3
    obtain ⟨⟨⟨k1, k2⟩, k3⟩, k4⟩ := h3
    have hm : HE (.inl (0, L, .inl xs)) (mkh (L, xs) (false, false) 33 69 0 M0) hr2 := by
      refine ⟨?_, ?_, ?_, ?_, e5, ?_⟩
      · show NCe = _; rw [← e1, k1]
      · show NSl = _; rw [← e2, k2]
      · show 0 = _; rw [← e3, k3]
      · show NCe ≤ 51000; decide
      · intro a ha
        have ha' : a < NCe ∨ a = mS := ha
        show CE (if a = mS then (.inl (0, L, .inl xs) : MCell) else if a < NCe then cel (false, false) 33 69 M0 a (SH (swp (false, false) a)) else _) _
        by_cases c : a = mS
        · rw [if_pos c, c, e5]
          exact CE.self
        · have hl : a < NCe := by omega
          rw [if_neg c, if_pos hl]
          have es : swp (false, false) a = a := by
            unfold swp
            split
            · simp
            · split
              · simp
              · rfl
          rw [es]
          have ha1 : a < 176 := hl
          have b1 := List.all_eq_true.mp k4 (a / 16) (List.mem_range.mpr (by omega))
          have b2 := List.all_eq_true.mp b1 (a % 16) (List.mem_range.mpr (by omega))
          rw [show 16 * (a / 16) + a % 16 = a by omega] at b2
          exact (ceqb_is b2).trans (e6 a (Or.inl (by rw [k1]; exact hl)))
    have run := LL (Q := fun o h => o = .inl (some (.int 1)) ∧ h.1 = NCe ∧ h.2.1 = NSl ∧ h.2.2.1 ≤ 512) (X := (L, xs)) (s := (false, false)) (dh := 33) (dl := 69) (t := 0) (va := .null) (vb := .null) RC0 RR0 INV0 hL (by omega) (fun s dh dl t M ht => ⟨rfl, rfl, rfl, ht⟩)
    obtain ⟨n, r, h', hn, hq⟩ := run
    obtain ⟨h'', z1, z2⟩ := T2 n hm hn
    have ex : EX 225 (sx 225 23) ls225 [] hr2 (fun o h => o = .inl (some (.int 1)) ∧ h.1 = NCe ∧ h.2.1 = NSl ∧ h.2.2.1 ≤ 512) := by
      refine ⟨n, r, h'', z1, hq.1, ?_, ?_, ?_⟩
      · rw [← z2.1]; exact hq.2.1
      · rw [← z2.2.1]; exact hq.2.2.1
      · rw [← z2.2.2.1]; exact hq.2.2.2
    have ex2 := rp_EX pre225 _ _ _ q1 ex
    have ex3 : CL 225 [.ref mS] (h_0 L xs) (fun o h => o = .inl (some (.int 1)) ∧ h.1 = NCe ∧ h.2.1 = NSl ∧ h.2.2.1 ≤ 512) := by
      rw [n_225, s_225_0]
      exact ex2
    obtain ⟨n3, r3, h3, y1, y2, y3, y4, y5⟩ := ex3
    subst y2
    refine ⟨n3, h3, y1, ?_, ?_⟩
    · rw [y3]; unfold NCe; omega
    · rw [y4]; unfold NSl; omega
theorem i_vc : Claimed_1_1 ∧ Claimed_1_2 := ⟨lw_limb whole_pure limb_1_1 (fun args s t => by simp [limb_1_1, Cond.after, Cond.holds, Cond.value]), lw_limb whole_pure limb_1_2 (fun args s t => Cond.after_iff.mpr (by
  first | (rw [show limb_1_2 = Cond.eq .result (.int 1) from rfl, Cond.eq_ints (x := 1) (y := 1) rfl rfl]; simp; done) | (simp [limb_1_2, Cond.value, Term.eval]; done)))⟩
