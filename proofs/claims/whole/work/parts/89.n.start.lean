/-! THE START: the law's own first steps, run by the kernel over a heap whose script cannot be read; and the end -/
def rp (N : Nat) : List (Nat × MI) → List Value → List Value → MHp → Option (List Value × List Value × MHp)
  | [], ls, st, h => some (ls, st, h)
  | (_, i) :: is, ls, st, h => match m_step P_tsw P_txt P_mcl k_dfl i ls st h with
    | some (.inl (ls', st', h')) => rp N is ls' st' h'
    | some (.inr (.inr (.inr (y, as, st')))) => if (m_spread as).length ≤ P_mxl y then match P_mx N y (P_cd y) (m_ent P_mxl y as) [] h with
      | some (.inl v, h') => rp N is ls (v.toList ++ st') h'
      | _ => none else none
    | _ => none
theorem rp_EX {N k : Nat} {rest : List (Nat × MI)} {Q : MOut → MHp → Prop} : ∀ (is : List (Nat × MI)) (ls st : List Value) (h : MHp) {ls' st' : List Value} {h' : MHp}, rp N is ls st h = some (ls', st', h') → EX k rest ls' st' h' Q → EX k (is ++ rest) ls st h Q := by
  intro is
  induction is with
  | nil =>
    intro ls st h ls' st' h' hs hx
    simp only [rp, Option.some.injEq, Prod.mk.injEq] at hs
    obtain ⟨rfl, rfl, rfl⟩ := hs
    exact hx
  | cons e is ih =>
    intro ls st h ls' st' h' hs hx
    obtain ⟨pc, i⟩ := e
    simp only [rp] at hs
    split at hs
    · rename_i l1 s1 h1 hm
      exact (EXg_next (tsw := P_tsw) (txt := P_txt) (mcl := P_mcl) (dfl := k_dfl) (cd := P_cd) (hnd := P_hnd) (mxl := P_mxl) hm).mpr (ih l1 s1 h1 hs hx)
    · rename_i y as s1 hm
      split at hs
      · rename_i hl
        split at hs
        · rename_i v h1 hc
          obtain ⟨n, r, h2, hn, hq⟩ := ih _ _ _ hs hx
          refine ⟨(N + n) + 1, r, h2, ?_, hq⟩
          have a1 := mx_mono (tsw := P_tsw) (txt := P_txt) (mcl := P_mcl) (dfl := k_dfl) (cd := P_cd) (hnd := P_hnd) (mxl := P_mxl) hc n
          have a2 := mx_mono (tsw := P_tsw) (txt := P_txt) (mcl := P_mcl) (dfl := k_dfl) (cd := P_cd) (hnd := P_hnd) (mxl := P_mxl) hn N
          rw [Nat.add_comm n N] at a2
          show mx P_tsw P_txt P_mcl k_dfl P_cd P_hnd P_mxl (N + n + 1) k ((pc, i) :: (is ++ rest)) ls st h = some (r, h2)
          unfold mx
          rw [hm]
          simp only
          rw [if_pos hl, a1]
          exact a2
        · cases hs
      · cases hs
    · cases hs
theorem rp_HE {N : Nat} {c0 : MCell} : ∀ (is : List (Nat × MI)) (ls st : List Value) (h h2 : MHp) {ls' st' : List Value} {h' : MHp}, HE c0 h h2 → rp N is ls st h = some (ls', st', h') → ∃ h2', rp N is ls st h2 = some (ls', st', h2') ∧ HE c0 h' h2' := by
  intro is
  induction is with
  | nil =>
    intro ls st h h2 ls' st' h' hr hs
    simp only [rp, Option.some.injEq, Prod.mk.injEq] at hs
    obtain ⟨rfl, rfl, rfl⟩ := hs
    exact ⟨h2, rfl, hr⟩
  | cons e is ih =>
    intro ls st h h2 ls' st' h' hr hs
    obtain ⟨pc, i⟩ := e
    simp only [rp] at hs ⊢
    split at hs
    · rename_i l1 s1 h1 hm
      obtain ⟨z, z1, z2⟩ := T1 hr hm
      rw [z1]
      rcases z with ⟨a1, a2, a3⟩ | ⟨a0, a1, a2, a3⟩ | ⟨a1, a2⟩ | ⟨a1, a2, a3⟩
      · obtain ⟨rfl, rfl, z3⟩ := z2
        exact ih _ _ _ _ z3 hs
      · cases z2
      · cases z2
      · cases z2
    · rename_i y as s1 hm
      obtain ⟨z, z1, z2⟩ := T1 hr hm
      rw [z1]
      rcases z with ⟨a1, a2, a3⟩ | ⟨a0, a1, a2, a3⟩ | ⟨a1, a2⟩ | ⟨a1, a2, a3⟩
      · cases z2
      · cases z2
      · cases z2
      · have z3 : (y, as, s1) = (a1, a2, a3) := z2
        injection z3 with z4 z5
        injection z5 with z5 z6
        subst z4 z5 z6
        simp only
        split at hs
        · rename_i hl
          rw [if_pos hl]
          split at hs
          · rename_i v h1 hc
            obtain ⟨h3, q1, q2⟩ := T2 N hr hc
            rw [q1]
            exact ih _ _ _ _ q2 hs
          · cases hs
        · cases hs
    · cases hs
def hD : MHp := (0, 0, 0, fun a => if a = mS then .inl (7, 0, .inl (fun _ => 0)) else .inl (0, 0, .inl (fun _ => 0)))
def M0 : Mem := fun a i => if (a = 2 ∧ i = 5) ∨ (a = 142 ∧ i = 8) ∨ ((a = 83 ∨ a = 111 ∨ a = 123 ∨ a = 135 ∨ a = 163) ∧ 0 ≤ i ∧ i < 12) ∨ ((a = 86 ∨ a = 114 ∨ a = 126 ∨ a = 138 ∨ a = 162) ∧ 0 ≤ i ∧ i < 4) then -1 else 0
def veq : Value → Value → Bool
  | .int x, .int y => decide (x = y)
  | .ref x, .ref y => decide (x = y)
  | .null, .null => true
  | _, _ => false
theorem veq_is {x y : Value} (h : veq x y = true) : x = y := by
  unfold veq at h
  split at h
  · simp at h; rw [h]
  · simp at h; rw [h]
  · rfl
  · cases h
def vleq : List Value → List Value → Bool
  | [], [] => true
  | x :: l, y :: m => veq x y && vleq l m
  | _, _ => false
theorem vleq_is : ∀ {l m : List Value}, vleq l m = true → l = m := by
  intro l
  induction l with
  | nil => intro m h; cases m with
    | nil => rfl
    | cons _ _ => cases h
  | cons x l ih => intro m h; cases m with
    | nil => cases h
    | cons y m =>
      simp only [vleq, Bool.and_eq_true] at h
      rw [veq_is h.1, ih h.2]
def ceqb (c d : MCell) : Bool := match c, d with
  | .inl (k, n, .inl f), .inl (k', n', .inl g) => decide (k = k') && decide (n = n') && (List.range n).all (fun i => decide (f i = g i))
  | .inl (k, n, .inr (.inl f)), .inl (k', n', .inr (.inl g)) => decide (k = k') && decide (n = n') && (List.range n).all (fun i => decide (f i = g i))
  | .inl (k, n, .inr (.inr f)), .inl (k', n', .inr (.inr g)) => decide (k = k') && decide (n = n') && (List.range n).all (fun i => decide (f i = g i))
  | .inr (c, l), .inr (c', l') => decide (c = c') && vleq l l'
  | _, _ => false
theorem ceqb_is {c d : MCell} (h : ceqb c d = true) : CE c d := by
  unfold ceqb at h
  split at h
  · simp only [Bool.and_eq_true, decide_eq_true_eq] at h
    obtain ⟨⟨rfl, rfl⟩, h⟩ := h
    refine Or.inr (Or.inl ⟨_, _, _, _, rfl, rfl, fun i hi => ?_⟩)
    have := List.all_eq_true.mp h i (List.mem_range.mpr hi)
    simpa using this
  · simp only [Bool.and_eq_true, decide_eq_true_eq] at h
    obtain ⟨⟨rfl, rfl⟩, h⟩ := h
    refine Or.inr (Or.inr (Or.inl ⟨_, _, _, _, rfl, rfl, fun i hi => ?_⟩))
    have := List.all_eq_true.mp h i (List.mem_range.mpr hi)
    simpa using this
  · simp only [Bool.and_eq_true, decide_eq_true_eq] at h
    obtain ⟨⟨rfl, rfl⟩, h⟩ := h
    refine Or.inr (Or.inr (Or.inr (Or.inl ⟨_, _, _, _, rfl, rfl, fun i hi => ?_⟩)))
    have := List.all_eq_true.mp h i (List.mem_range.mpr hi)
    simpa using this
  · simp only [Bool.and_eq_true, decide_eq_true_eq] at h
    obtain ⟨rfl, h⟩ := h
    rw [vleq_is h]
    exact Or.inr (Or.inr (Or.inr (Or.inr ⟨_, rfl, rfl⟩)))
  · cases h
theorem CE.trans {c d e : MCell} (h : CE c d) (h2 : CE d e) : CE c e := by
  rcases h with ⟨n, x, h⟩ | ⟨k, n, f, g, h, h3, h4⟩ | ⟨k, n, f, g, h, h3, h4⟩ | ⟨k, n, f, g, h, h3, h4⟩ | ⟨p, h, h3⟩
  · exact Or.inl ⟨n, x, h⟩
  · by_cases k7 : k = 7
    · subst k7; exact Or.inl ⟨n, f, h⟩
    · rw [h3] at h2
      obtain ⟨g', a, b⟩ := h2.i k7
      exact Or.inr (Or.inl ⟨k, n, f, g', h, a, fun i hi => by rw [h4 i hi, b i hi]⟩)
  · rw [h3] at h2
    obtain ⟨g', a, b⟩ := h2.j
    exact Or.inr (Or.inr (Or.inl ⟨k, n, f, g', h, a, fun i hi => by rw [h4 i hi, b i hi]⟩))
  · rw [h3] at h2
    obtain ⟨g', a, b⟩ := h2.r
    exact Or.inr (Or.inr (Or.inr (Or.inl ⟨k, n, f, g', h, a, fun i hi => by rw [h4 i hi, b i hi]⟩)))
  · rw [h3] at h2
    exact Or.inr (Or.inr (Or.inr (Or.inr ⟨p, h, h2.o⟩)))
def pre225 : List (Nat × MI) := [(0, I_new 10 8 0), (3, I_dup), (4, I_k 76 0 182), (7, I_as 1 1), (8, I_new 11 90 44), (11, I_dup), (12, I_k 121 0 183), (15, I_as 2 1), (16, I_c 0 0 0 1), (17, I_na 1), (19, I_as 3 1), (20, I_c 0 0 0 0), (21, I_is 4 2)]
def ls225 : List Value := [.ref mS, .ref 0, .ref 142, .ref 175, .int 0, .null, .null]
def ckD (h : MHp) : Bool := decide (h.1 = NCe) && decide (h.2.1 = NSl) && decide (h.2.2.1 = 0) && (List.range 11).all (fun i => (List.range 16).all (fun j => ceqb (cel (false, false) 33 69 M0 (16 * i + j) (SH (16 * i + j))) (h.2.2.2 (16 * i + j))))
theorem ck_start : (match rp 3000 pre225 [.ref mS, .null, .null, .null, .null, .null, .null] [] hD with
    | some (l, st, h) => vleq l ls225 && vleq st [] && ckD h
    | none => false) = true := by decide +kernel
