/-! THE SMALL MACHINE'S STATES AS STATES OF THE MACHINE: the cell a lies at B0 + a; a place σ a for every reference -/
section SimA
def s_v (σ : Nat → Nat) : Value → Value
  | .ref a => .ref (σ a)
  | v => v
def s_c (dA : Nat → ClassId) (σ : Nat → Nat) : MCell → va_E
  | .inl (t, n, .inl f) => .inl (dA t, n, .inl f)
  | .inl (t, n, .inr (.inl f)) => .inl (dA t, n, .inr (.inl f))
  | .inl (t, n, .inr (.inr f)) => .inl (dA t, n, .inr (.inr (.inr (.inr (fun j => (f j).map σ)))))
  | .inr (ci, fs) => .inr (ci, fs.map (s_v σ))
def s_w (dA : Nat → ClassId) (B0 : Nat) (σ : Nat → Nat) (h : MHp) : va_W := (List.range h.1).map (fun a => (B0 + a, s_c dA σ (h.2.2.2 a)))
abbrev s_A (B0 : Nat) : Nat → Prop := fun q => B0 ≤ q
abbrev s_t (dA : Nat → ClassId) : List (ClassId × FieldType) := [(dA 0, .int), (dA 1, .long), (dA 2, .boolean), (dA 3, .array .int), (dA 4, .object RX0)]
variable {dA : Nat → ClassId} {B0 : Nat} {σ : Nat → Nat}
theorem s_w_get {h : MHp} {a : Nat} (ha : a < h.1) : (s_w dA B0 σ h)[a]? = some (B0 + a, s_c dA σ (h.2.2.2 a)) := by
  simp [s_w, ha]
theorem s_w_len {h : MHp} : (s_w dA B0 σ h).length = h.1 := by simp [s_w]
theorem s_w_at {h : MHp} {k : Nat} {q : Nat × va_E} (hq : (s_w dA B0 σ h)[k]? = some q) : k < h.1 ∧ q = (B0 + k, s_c dA σ (h.2.2.2 k)) := by
  have hk : k < h.1 := by
    have := (List.getElem?_eq_some_iff.mp hq).1
    rwa [s_w_len] at this
  rw [s_w_get hk] at hq
  exact ⟨hk, (Option.some.inj hq).symm⟩
theorem s_w_set {h : MHp} {a : Nat} (x : MCell) (ha : a < h.1) : (s_w dA B0 σ h).set a (B0 + a, s_c dA σ x) = s_w dA B0 σ (m_set h a x) := by
  apply List.ext_getElem?
  intro k
  by_cases hk : k = a
  · subst hk
    rw [s_w_get (h := m_set h k x) ha, List.getElem?_set_self (by rw [s_w_len]; exact ha)]
    simp [m_set, m_upd]
  · rw [List.getElem?_set_ne (fun e => hk e.symm)]
    by_cases hl : k < h.1
    · rw [s_w_get hl, s_w_get (h := m_set h a x) hl]
      simp [m_set, m_upd, hk]
    · rw [List.getElem?_eq_none (by rw [s_w_len]; omega), List.getElem?_eq_none (by rw [s_w_len]; simp only [m_set]; omega)]
theorem s_w_push {h : MHp} (x : MCell) (sl : Nat) : s_w dA B0 σ h ++ [(B0 + h.1, s_c dA σ x)] = s_w dA B0 σ (m_push h x sl) := by
  apply List.ext_getElem?
  intro k
  by_cases hl : k < h.1
  · rw [List.getElem?_append_left (by rw [s_w_len]; exact hl), s_w_get hl, s_w_get (h := m_push h x sl) (by simp only [m_push]; omega)]
    simp [m_push, m_upd, Nat.ne_of_lt hl]
  · rw [List.getElem?_append_right (by rw [s_w_len]; omega), s_w_len]
    by_cases he : k = h.1
    · subst he
      rw [s_w_get (h := m_push h x sl) (by simp only [m_push]; omega)]
      simp [m_push, m_upd]
    · rw [List.getElem?_eq_none (by simp only [List.length_cons, List.length_nil]; omega), List.getElem?_eq_none (by rw [s_w_len]; simp only [m_push]; omega)]
theorem s_w_D {h : MHp} : va_D (s_A B0) (s_w dA B0 σ h) := by
  refine ⟨fun i j p q hi hj he => ?_, fun k q hk => ?_⟩
  · obtain ⟨-, rfl⟩ := s_w_at hi
    obtain ⟨-, rfl⟩ := s_w_at hj
    simp only at he
    omega
  · obtain ⟨-, rfl⟩ := s_w_at hk
    exact Nat.le_add_right _ _
/-- the variables -/
def s_l (σ : Nat → Nat) (ls : List Value) (LS : Array Slot) (n : Nat) : Prop := LS.size = n ∧ lv_wf LS ∧ ∀ (j : Nat) (v : Value), ls[j]? = some v → v ≠ .null → LS[j]? = some (.val (s_v σ v))
def s_as (σ : Nat → Nat) (ls : List Value) : List (Nat × Value) := (List.range ls.length).filterMap (fun j => match ls[j]? with
  | some v => if v = .null then none else some (j, s_v σ v)
  | none => none)
theorem s_as_in {ls : List Value} {j : Nat} {v : Value} (h : ls[j]? = some v) (hv : v ≠ .null) : (j, s_v σ v) ∈ s_as σ ls := by
  refine List.mem_filterMap.mpr ⟨j, List.mem_range.mpr (List.getElem?_eq_some_iff.mp h).1, ?_⟩
  rw [h]
  simp [hv]
theorem s_as_has {ls : List Value} {LS : Array Slot} {n : Nat} (h : s_l σ ls LS n) : lv_has LS n (s_as σ ls) := by
  refine ⟨h.1, h.2.1, fun q hq => ?_⟩
  obtain ⟨j, -, hj⟩ := List.mem_filterMap.mp hq
  cases hl : ls[j]? with
  | none => rw [hl] at hj; cases hj
  | some v =>
    rw [hl] at hj
    by_cases hv : v = .null
    · simp [hv] at hj
    · simp only [hv, if_false, Option.some.injEq] at hj
      subst hj
      exact h.2.2 j v hl hv
theorem s_v_cat (v : Value) : (s_v σ v).category = v.category := by cases v <;> rfl
theorem m_pv_cases {v : Value} (h : m_pv v ≠ .null) : m_pv v = v ∧ v.category = 1 := by
  cases v <;> simp_all [m_pv, Value.category]
theorem m_st1_get : ∀ (ls : List Value) (i j : Nat) (w v : Value), (m_st1 ls i w)[j]? = some v → v ≠ .null → (j = i ∧ v = w) ∨ (j ≠ i ∧ ls[j]? = some v ∧ (j + 1 = i → v.category = 1)) := by
  intro ls
  induction ls with
  | nil => intro i j w v h; simp [m_st1] at h
  | cons a l ih =>
    intro i j w v h hv
    match i, j with
    | 0, 0 => simp [m_st1] at h; exact Or.inl ⟨rfl, h.symm⟩
    | 0, j + 1 => simp [m_st1] at h; exact Or.inr ⟨by omega, by simpa using h, by omega⟩
    | 1, 0 =>
      simp [m_st1] at h
      subst h
      obtain ⟨e1, e2⟩ := m_pv_cases hv
      exact Or.inr ⟨by omega, by simp [e1], fun _ => by rw [e1]; exact e2⟩
    | 1, j + 1 =>
      simp [m_st1] at h
      rcases ih 0 j w v h hv with ⟨e, e2⟩ | ⟨e, e2, e3⟩
      · exact Or.inl ⟨by omega, e2⟩
      · exact Or.inr ⟨by omega, by simpa using e2, by omega⟩
    | i + 2, 0 => simp [m_st1] at h; exact Or.inr ⟨by omega, by simp [h], by omega⟩
    | i + 2, j + 1 =>
      simp [m_st1] at h
      rcases ih (i + 1) j w v h hv with ⟨e, e2⟩ | ⟨e, e2, e3⟩
      · exact Or.inl ⟨by omega, e2⟩
      · exact Or.inr ⟨by omega, by simpa using e2, fun h => e3 (by omega)⟩
theorem m_st2_get : ∀ (ls : List Value) (i j : Nat) (w v : Value), (m_st2 ls i w)[j]? = some v → v ≠ .null → (j = i ∧ v = w) ∨ (j ≠ i ∧ j ≠ i + 1 ∧ ls[j]? = some v ∧ (j + 1 = i → v.category = 1)) := by
  intro ls
  induction ls with
  | nil => intro i j w v h; simp [m_st2] at h
  | cons a l ih =>
    intro i j w v h hv
    match i, j, l, ih with
    | 0, j, [], _ => simp [m_st2] at h
    | 0, 0, b :: l, _ => simp [m_st2] at h; exact Or.inl ⟨rfl, h.symm⟩
    | 0, 1, b :: l, _ => simp [m_st2] at h; exact absurd h.symm hv
    | 0, j + 2, b :: l, _ => simp [m_st2] at h; exact Or.inr ⟨by omega, by omega, by simpa using h, by omega⟩
    | 1, 0, l, _ =>
      simp [m_st2] at h
      subst h
      obtain ⟨e1, e2⟩ := m_pv_cases hv
      exact Or.inr ⟨by omega, by omega, by simp [e1], fun _ => by rw [e1]; exact e2⟩
    | 1, j + 1, l, ih =>
      simp [m_st2] at h
      rcases ih 0 j w v h hv with ⟨e, e2⟩ | ⟨e, e0, e2, e3⟩
      · exact Or.inl ⟨by omega, e2⟩
      · exact Or.inr ⟨by omega, by omega, by simpa using e2, by omega⟩
    | i + 2, 0, l, _ => simp [m_st2] at h; exact Or.inr ⟨by omega, by omega, by simp [h], by omega⟩
    | i + 2, j + 1, l, ih =>
      simp [m_st2] at h
      rcases ih (i + 1) j w v h hv with ⟨e, e2⟩ | ⟨e, e0, e2, e3⟩
      · exact Or.inl ⟨by omega, e2⟩
      · exact Or.inr ⟨by omega, by omega, by simpa using e2, fun h => e3 (by omega)⟩
theorem s_l_st1 {ls : List Value} {LS' : Array Slot} {n i : Nat} {w : Value} {lv : List (Nat × Value)} (hlv : lv = s_as σ ls)
    (h : lv_has LS' n ((i, s_v σ w) :: lv.filter (fun q => !(q.1 == i) && !(q.1 + 1 == i && q.2.category == 2)))) : s_l σ (m_st1 ls i w) LS' n := by
  subst hlv
  refine ⟨h.1, h.2.1, fun j v hj hv => ?_⟩
  rcases m_st1_get ls i j w v hj hv with ⟨e1, e2⟩ | ⟨e1, e2, e3⟩
  · subst e1; subst e2
    exact h.2.2 _ List.mem_cons_self
  · refine h.2.2 (j, s_v σ v) (List.mem_cons_of_mem _ (List.mem_filter.mpr ⟨s_as_in e2 hv, ?_⟩))
    by_cases e4 : j + 1 = i
    · simp [e1, s_v_cat, e3 e4]
    · simp [e1, e4]
theorem s_l_st2 {ls : List Value} {LS' : Array Slot} {n i : Nat} {w : Value} {lv : List (Nat × Value)} (hlv : lv = s_as σ ls)
    (h : lv_has LS' n ((i, s_v σ w) :: lv.filter (fun q => !(q.1 == i) && (!(q.1 == i + 1) && !(q.1 + 1 == i && q.2.category == 2))))) : s_l σ (m_st2 ls i w) LS' n := by
  subst hlv
  refine ⟨h.1, h.2.1, fun j v hj hv => ?_⟩
  rcases m_st2_get ls i j w v hj hv with ⟨e1, e2⟩ | ⟨e1, e0, e2, e3⟩
  · subst e1; subst e2
    exact h.2.2 _ List.mem_cons_self
  · refine h.2.2 (j, s_v σ v) (List.mem_cons_of_mem _ (List.mem_filter.mpr ⟨s_as_in e2 hv, ?_⟩))
    by_cases e4 : j + 1 = i
    · simp [e1, e0, s_v_cat, e3 e4]
    · simp [e1, e0, e4]
theorem m_in_iff {i : Int32} {n : Nat} : m_in i n = true ↔ vp_in i n := by
  unfold m_in vp_in
  simp only [Bool.and_eq_true, decide_eq_true_eq, not_or, Nat.not_le]
end SimA
