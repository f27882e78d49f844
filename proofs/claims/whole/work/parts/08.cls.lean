/-- a class by its number -/
theorem k_cls {ci : Nat} {C : String} {T : u_T} {N : Nat} (h : vwCl[ci]? = some (C, T, N)) : (∀ w ∈ u_ws C T N, w ∈ lw_tbl) ∧ (∃ ty : Nat → FieldType, ∀ k, k < N → parseFieldDescriptor (T k).2.2.1 = some (ty k)) ∧ (∀ a, a < N → ∀ b, b < N → a ≠ b → (T a).2.1 ≠ (T b).2.1) ∧ (Cond.instantiable C N ∈ lw_tbl ∧ Cond.initialized C ∈ lw_tbl) ∧ ∀ k, k < N → (T k).1 = C := by
  match ci, h with
  | 0, h => cases h; exact ⟨by decide +kernel, ⟨_, tyX0_ok⟩, nmX0, by decide +kernel, by decide +kernel⟩
  | 1, h => cases h; exact ⟨by decide +kernel, ⟨_, tyX1_ok⟩, nmX1, by decide +kernel, by decide +kernel⟩
  | 2, h => cases h; exact ⟨by decide +kernel, ⟨_, tyX2_ok⟩, nmX2, by decide +kernel, by decide +kernel⟩
  | 3, h => cases h; exact ⟨by decide +kernel, ⟨_, tyX3_ok⟩, nmX3, by decide +kernel, by decide +kernel⟩
  | 4, h => cases h; exact ⟨by decide +kernel, ⟨_, tyX4_ok⟩, nmX4, by decide +kernel, by decide +kernel⟩
  | 5, h => cases h; exact ⟨by decide +kernel, ⟨_, tyX5_ok⟩, nmX5, by decide +kernel, by decide +kernel⟩
  | 6, h => cases h; exact ⟨by decide +kernel, ⟨_, tyX6_ok⟩, nmX6, by decide +kernel, by decide +kernel⟩
  | 7, h => cases h; exact ⟨by decide +kernel, ⟨_, tyX7_ok⟩, nmX7, by decide +kernel, by decide +kernel⟩
  | 8, h => cases h; exact ⟨by decide +kernel, ⟨_, tyX8_ok⟩, nmX8, by decide +kernel, by decide +kernel⟩
  | 9, h => cases h; exact ⟨by decide +kernel, ⟨_, tyX9_ok⟩, nmX9, by decide +kernel, by decide +kernel⟩
  | 10, h => cases h; exact ⟨by decide +kernel, ⟨_, tyX10_ok⟩, nmX10, by decide +kernel, by decide +kernel⟩
  | 11, h => cases h; exact ⟨by decide +kernel, ⟨_, tyX11_ok⟩, nmX11, by decide +kernel, by decide +kernel⟩
  | n + 12, h => simp [vwCl] at h
