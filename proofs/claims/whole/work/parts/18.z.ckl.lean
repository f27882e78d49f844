/-! THE LAW'S OWN ROWS, CHECKED IN PIECES -/
def c_listn (k : Nat) : Nat → List (Nat × MI) → Bool
  | 0, _ => true
  | _, [] => true
  | n + 1, (pc, i) :: is => c_ins k pc i (c_hd is) && c_listn k n is
theorem c_listn_go (k : Nat) : ∀ (n : Nat) (l : List (Nat × MI)), c_listn k n l = true → c_list k (l.drop n) = true → c_list k l = true := by
  intro n
  induction n with
  | zero => intro l _ h; exact h
  | succ n ih =>
    intro l h1 h2
    rcases l with _ | ⟨⟨pc, i⟩, is⟩
    · rfl
    · simp only [c_listn, Bool.and_eq_true] at h1
      simp only [c_list, Bool.and_eq_true]
      exact ⟨h1.1, ih is h1.2 (by simpa using h2)⟩
theorem ckl_0 : c_listn 225 25 (cd_225.drop 0) = true := by decide +kernel
theorem ckl_25 : c_listn 225 25 (cd_225.drop 25) = true := by decide +kernel
theorem ckl_50 : c_listn 225 25 (cd_225.drop 50) = true := by decide +kernel
theorem ckl_75 : c_listn 225 25 (cd_225.drop 75) = true := by decide +kernel
theorem ckl_100 : c_listn 225 25 (cd_225.drop 100) = true := by decide +kernel
theorem ckl_125 : c_listn 225 25 (cd_225.drop 125) = true := by decide +kernel
theorem ckl_150 : c_listn 225 25 (cd_225.drop 150) = true := by decide +kernel
theorem ckl_175 : c_listn 225 25 (cd_225.drop 175) = true := by decide +kernel
theorem ckl_200 : c_listn 225 25 (cd_225.drop 200) = true := by decide +kernel
theorem ckl_225 : c_listn 225 25 (cd_225.drop 225) = true := by decide +kernel
theorem ckl_250 : c_listn 225 25 (cd_225.drop 250) = true := by decide +kernel
theorem ckl_275 : c_listn 225 25 (cd_225.drop 275) = true := by decide +kernel
theorem ckl_300 : c_listn 225 25 (cd_225.drop 300) = true := by decide +kernel
theorem ckl_325 : c_listn 225 25 (cd_225.drop 325) = true := by decide +kernel
theorem ckl_350 : c_listn 225 25 (cd_225.drop 350) = true := by decide +kernel
theorem ckl_375 : c_listn 225 25 (cd_225.drop 375) = true := by decide +kernel
theorem ckl_400 : c_listn 225 25 (cd_225.drop 400) = true := by decide +kernel
theorem ckl_425 : c_listn 225 25 (cd_225.drop 425) = true := by decide +kernel
theorem ckl_450 : c_listn 225 25 (cd_225.drop 450) = true := by decide +kernel
theorem ckl_475 : c_listn 225 25 (cd_225.drop 475) = true := by decide +kernel
theorem ckl_500 : c_listn 225 25 (cd_225.drop 500) = true := by decide +kernel
theorem ckl_525 : c_listn 225 25 (cd_225.drop 525) = true := by decide +kernel
theorem ckl_550 : c_listn 225 25 (cd_225.drop 550) = true := by decide +kernel
theorem ckl_575 : c_listn 225 25 (cd_225.drop 575) = true := by decide +kernel
theorem ckl_600 : c_listn 225 25 (cd_225.drop 600) = true := by decide +kernel
theorem ckl_625 : c_listn 225 25 (cd_225.drop 625) = true := by decide +kernel
theorem ckl_650 : c_listn 225 25 (cd_225.drop 650) = true := by decide +kernel
theorem ckl_675 : c_listn 225 25 (cd_225.drop 675) = true := by decide +kernel
theorem ckl_700 : c_listn 225 25 (cd_225.drop 700) = true := by decide +kernel
theorem ckl_725 : c_listn 225 25 (cd_225.drop 725) = true := by decide +kernel
theorem ckl_750 : c_listn 225 25 (cd_225.drop 750) = true := by decide +kernel
theorem ckl_775 : c_listn 225 25 (cd_225.drop 775) = true := by decide +kernel
theorem ckl_800 : c_listn 225 25 (cd_225.drop 800) = true := by decide +kernel
theorem ckl_825 : c_listn 225 25 (cd_225.drop 825) = true := by decide +kernel
theorem ckl_850 : c_listn 225 25 (cd_225.drop 850) = true := by decide +kernel
theorem ckl_875 : c_listn 225 25 (cd_225.drop 875) = true := by decide +kernel
theorem ckl_900 : c_listn 225 25 (cd_225.drop 900) = true := by decide +kernel
theorem ckl_925 : c_listn 225 25 (cd_225.drop 925) = true := by decide +kernel
theorem ckl_950 : c_listn 225 25 (cd_225.drop 950) = true := by decide +kernel
theorem ckl_975 : c_listn 225 25 (cd_225.drop 975) = true := by decide +kernel
theorem ckl_1000 : c_listn 225 25 (cd_225.drop 1000) = true := by decide +kernel
theorem ckl_1025 : c_listn 225 25 (cd_225.drop 1025) = true := by decide +kernel
theorem ckl_1050 : c_listn 225 25 (cd_225.drop 1050) = true := by decide +kernel
theorem ckl_1075 : c_listn 225 25 (cd_225.drop 1075) = true := by decide +kernel
theorem ckl_1100 : c_listn 225 25 (cd_225.drop 1100) = true := by decide +kernel
theorem ckl_1125 : c_listn 225 25 (cd_225.drop 1125) = true := by decide +kernel
theorem ckl_1150 : c_listn 225 25 (cd_225.drop 1150) = true := by decide +kernel
theorem ckl_1175 : c_listn 225 25 (cd_225.drop 1175) = true := by decide +kernel
theorem ckl_1200 : c_listn 225 25 (cd_225.drop 1200) = true := by decide +kernel
theorem ckl_1225 : c_listn 225 25 (cd_225.drop 1225) = true := by decide +kernel
theorem ckl_1250 : c_listn 225 25 (cd_225.drop 1250) = true := by decide +kernel
theorem ckl_1275 : c_listn 225 25 (cd_225.drop 1275) = true := by decide +kernel
theorem ckl_1300 : c_listn 225 25 (cd_225.drop 1300) = true := by decide +kernel
theorem ckl_end : cd_225.drop 1325 = [] := List.drop_eq_nil_of_le (by decide +kernel)
theorem ck_law : c_list 225 (P_cd 225) = true ∧ c_hd (P_cd 225) = some 0 := by
  refine ⟨?_, rfl⟩
  show c_list 225 cd_225 = true
  refine c_listn_go 225 25 _ ckl_0 ?_
  skip
  refine c_listn_go 225 25 _ ckl_25 ?_
  rw [List.drop_drop, show 25 + 25 = 50 from rfl]
  refine c_listn_go 225 25 _ ckl_50 ?_
  rw [List.drop_drop, show 50 + 25 = 75 from rfl]
  refine c_listn_go 225 25 _ ckl_75 ?_
  rw [List.drop_drop, show 75 + 25 = 100 from rfl]
  refine c_listn_go 225 25 _ ckl_100 ?_
  rw [List.drop_drop, show 100 + 25 = 125 from rfl]
  refine c_listn_go 225 25 _ ckl_125 ?_
  rw [List.drop_drop, show 125 + 25 = 150 from rfl]
  refine c_listn_go 225 25 _ ckl_150 ?_
  rw [List.drop_drop, show 150 + 25 = 175 from rfl]
  refine c_listn_go 225 25 _ ckl_175 ?_
  rw [List.drop_drop, show 175 + 25 = 200 from rfl]
  refine c_listn_go 225 25 _ ckl_200 ?_
  rw [List.drop_drop, show 200 + 25 = 225 from rfl]
  refine c_listn_go 225 25 _ ckl_225 ?_
  rw [List.drop_drop, show 225 + 25 = 250 from rfl]
  refine c_listn_go 225 25 _ ckl_250 ?_
  rw [List.drop_drop, show 250 + 25 = 275 from rfl]
  refine c_listn_go 225 25 _ ckl_275 ?_
  rw [List.drop_drop, show 275 + 25 = 300 from rfl]
  refine c_listn_go 225 25 _ ckl_300 ?_
  rw [List.drop_drop, show 300 + 25 = 325 from rfl]
  refine c_listn_go 225 25 _ ckl_325 ?_
  rw [List.drop_drop, show 325 + 25 = 350 from rfl]
  refine c_listn_go 225 25 _ ckl_350 ?_
  rw [List.drop_drop, show 350 + 25 = 375 from rfl]
  refine c_listn_go 225 25 _ ckl_375 ?_
  rw [List.drop_drop, show 375 + 25 = 400 from rfl]
  refine c_listn_go 225 25 _ ckl_400 ?_
  rw [List.drop_drop, show 400 + 25 = 425 from rfl]
  refine c_listn_go 225 25 _ ckl_425 ?_
  rw [List.drop_drop, show 425 + 25 = 450 from rfl]
  refine c_listn_go 225 25 _ ckl_450 ?_
  rw [List.drop_drop, show 450 + 25 = 475 from rfl]
  refine c_listn_go 225 25 _ ckl_475 ?_
  rw [List.drop_drop, show 475 + 25 = 500 from rfl]
  refine c_listn_go 225 25 _ ckl_500 ?_
  rw [List.drop_drop, show 500 + 25 = 525 from rfl]
  refine c_listn_go 225 25 _ ckl_525 ?_
  rw [List.drop_drop, show 525 + 25 = 550 from rfl]
  refine c_listn_go 225 25 _ ckl_550 ?_
  rw [List.drop_drop, show 550 + 25 = 575 from rfl]
  refine c_listn_go 225 25 _ ckl_575 ?_
  rw [List.drop_drop, show 575 + 25 = 600 from rfl]
  refine c_listn_go 225 25 _ ckl_600 ?_
  rw [List.drop_drop, show 600 + 25 = 625 from rfl]
  refine c_listn_go 225 25 _ ckl_625 ?_
  rw [List.drop_drop, show 625 + 25 = 650 from rfl]
  refine c_listn_go 225 25 _ ckl_650 ?_
  rw [List.drop_drop, show 650 + 25 = 675 from rfl]
  refine c_listn_go 225 25 _ ckl_675 ?_
  rw [List.drop_drop, show 675 + 25 = 700 from rfl]
  refine c_listn_go 225 25 _ ckl_700 ?_
  rw [List.drop_drop, show 700 + 25 = 725 from rfl]
  refine c_listn_go 225 25 _ ckl_725 ?_
  rw [List.drop_drop, show 725 + 25 = 750 from rfl]
  refine c_listn_go 225 25 _ ckl_750 ?_
  rw [List.drop_drop, show 750 + 25 = 775 from rfl]
  refine c_listn_go 225 25 _ ckl_775 ?_
  rw [List.drop_drop, show 775 + 25 = 800 from rfl]
  refine c_listn_go 225 25 _ ckl_800 ?_
  rw [List.drop_drop, show 800 + 25 = 825 from rfl]
  refine c_listn_go 225 25 _ ckl_825 ?_
  rw [List.drop_drop, show 825 + 25 = 850 from rfl]
  refine c_listn_go 225 25 _ ckl_850 ?_
  rw [List.drop_drop, show 850 + 25 = 875 from rfl]
  refine c_listn_go 225 25 _ ckl_875 ?_
  rw [List.drop_drop, show 875 + 25 = 900 from rfl]
  refine c_listn_go 225 25 _ ckl_900 ?_
  rw [List.drop_drop, show 900 + 25 = 925 from rfl]
  refine c_listn_go 225 25 _ ckl_925 ?_
  rw [List.drop_drop, show 925 + 25 = 950 from rfl]
  refine c_listn_go 225 25 _ ckl_950 ?_
  rw [List.drop_drop, show 950 + 25 = 975 from rfl]
  refine c_listn_go 225 25 _ ckl_975 ?_
  rw [List.drop_drop, show 975 + 25 = 1000 from rfl]
  refine c_listn_go 225 25 _ ckl_1000 ?_
  rw [List.drop_drop, show 1000 + 25 = 1025 from rfl]
  refine c_listn_go 225 25 _ ckl_1025 ?_
  rw [List.drop_drop, show 1025 + 25 = 1050 from rfl]
  refine c_listn_go 225 25 _ ckl_1050 ?_
  rw [List.drop_drop, show 1050 + 25 = 1075 from rfl]
  refine c_listn_go 225 25 _ ckl_1075 ?_
  rw [List.drop_drop, show 1075 + 25 = 1100 from rfl]
  refine c_listn_go 225 25 _ ckl_1100 ?_
  rw [List.drop_drop, show 1100 + 25 = 1125 from rfl]
  refine c_listn_go 225 25 _ ckl_1125 ?_
  rw [List.drop_drop, show 1125 + 25 = 1150 from rfl]
  refine c_listn_go 225 25 _ ckl_1150 ?_
  rw [List.drop_drop, show 1150 + 25 = 1175 from rfl]
  refine c_listn_go 225 25 _ ckl_1175 ?_
  rw [List.drop_drop, show 1175 + 25 = 1200 from rfl]
  refine c_listn_go 225 25 _ ckl_1200 ?_
  rw [List.drop_drop, show 1200 + 25 = 1225 from rfl]
  refine c_listn_go 225 25 _ ckl_1225 ?_
  rw [List.drop_drop, show 1225 + 25 = 1250 from rfl]
  refine c_listn_go 225 25 _ ckl_1250 ?_
  rw [List.drop_drop, show 1250 + 25 = 1275 from rfl]
  refine c_listn_go 225 25 _ ckl_1275 ?_
  rw [List.drop_drop, show 1275 + 25 = 1300 from rfl]
  refine c_listn_go 225 25 _ ckl_1300 ?_
  rw [List.drop_drop, show 1300 + 25 = 1325 from rfl]
  rw [ckl_end]; rfl
