/-! THE LAW'S OWN ROWS, CHECKED IN PIECES -/
def c_listn (k : Nat) : Nat → List (Nat × MI) → Bool
  | 0, _ => true
  | _, [] => true
  | n + 1, (pc, i) :: is => c_ins k pc i (c_hd is) && c_listn k n is
theorem c_listn_go (k : Nat) : ∀ (n : Nat) (l : List (Nat × MI)), c_listn k n l = true → c_list k (l.drop n) = true → c_list k l = true := by
  intro n
  induction n with
  | zero => intro l _ h; exact h
  | succ n ih =>
    intro l h1 h2
    rcases l with _ | ⟨⟨pc, i⟩, is⟩
    · rfl
    · simp only [c_listn, Bool.and_eq_true] at h1
      simp only [c_list, Bool.and_eq_true]
      exact ⟨h1.1, ih is h1.2 (by simpa using h2)⟩
theorem ck_law : c_list 225 (P_cd 225) = true ∧ c_hd (P_cd 225) = some 0 := by sorry
