/-! THE LAW'S OWN ROWS, CHECKED IN PIECES -/
def c_listn (k : Nat) : Nat → List (Nat × MI) → Bool
  | 0, _ => true
  | _, [] => true
  | n + 1, (pc, i) :: is => c_ins k pc i (c_hd is) && c_listn k n is
theorem c_listn_go (k : Nat) : ∀ (n : Nat) (l : List (Nat × MI)), c_listn k n l = true → c_list k (l.drop n) = true → c_list k l = true := by
  intro n
  induction n with
  | zero => intro l _ h; exact h
  | succ n ih =>
    intro l h1 h2
    rcases l with _ | ⟨⟨pc, i⟩, is⟩
    · rfl
    · simp only [c_listn, Bool.and_eq_true] at h1
      simp only [c_list, Bool.and_eq_true]
      exact ⟨h1.1, ih is h1.2 (by simpa using h2)⟩
theorem ckl_0 : c_listn 225 200 (cd_225.drop 0) = true := by decide +kernel
theorem ckl_200 : c_listn 225 200 (cd_225.drop 200) = true := by decide +kernel
theorem ckl_400 : c_listn 225 200 (cd_225.drop 400) = true := by decide +kernel
theorem ckl_600 : c_listn 225 200 (cd_225.drop 600) = true := by decide +kernel
theorem ckl_800 : c_listn 225 200 (cd_225.drop 800) = true := by decide +kernel
theorem ckl_1000 : c_listn 225 200 (cd_225.drop 1000) = true := by decide +kernel
theorem ckl_1200 : c_listn 225 200 (cd_225.drop 1200) = true := by decide +kernel
theorem ckl_end : cd_225.drop 1400 = [] := by rfl
theorem ck_law : c_list 225 (P_cd 225) = true ∧ c_hd (P_cd 225) = some 0 := by
  refine ⟨?_, rfl⟩
  show c_list 225 cd_225 = true
  refine c_listn_go 225 200 _ ckl_0 ?_
  skip
  refine c_listn_go 225 200 _ ckl_200 ?_
  rw [List.drop_drop, show 200 + 200 = 400 from rfl]
  refine c_listn_go 225 200 _ ckl_400 ?_
  rw [List.drop_drop, show 400 + 200 = 600 from rfl]
  refine c_listn_go 225 200 _ ckl_600 ?_
  rw [List.drop_drop, show 600 + 200 = 800 from rfl]
  refine c_listn_go 225 200 _ ckl_800 ?_
  rw [List.drop_drop, show 800 + 200 = 1000 from rfl]
  refine c_listn_go 225 200 _ ckl_1000 ?_
  rw [List.drop_drop, show 1000 + 200 = 1200 from rfl]
  refine c_listn_go 225 200 _ ckl_1200 ?_
  rw [List.drop_drop, show 1200 + 200 = 1400 from rfl]
  rw [ckl_end]; rfl
