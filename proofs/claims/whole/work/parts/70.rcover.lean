/-! THE REFERENCE: the least goods that cover, set by set -/
theorem wz_iand {x y : Int} : wz (iand x y) = iand x y := by unfold iand; exact wz_ti
theorem tb_bt {x j : Nat} : x.testBit j = decide (bt x j = 1) := by unfold bt; rw [Nat.testBit_eq_decide_div_mod_eq]
theorem bt_hi {x j : Nat} (hx : x < 4096) (hj : 12 ≤ j) : x.testBit j = false := by
  apply Nat.testBit_lt_two_pow
  have : 2 ^ 12 ≤ 2 ^ j := Nat.pow_le_pow_right (by decide) hj
  omega
theorem and_sub {x y : Nat} (hx : x < 4096) (hy : y < 4096) : iand (x : Int) (ixor (y : Int) (-1)) = 0 ↔ ∀ j, j < 12 → bt x j = 1 → bt y j = 1 := by
  have e1 : iand (x : Int) (ixor (y : Int) (-1)) = ((BitVec.ofNat 32 x) &&& (BitVec.ofNat 32 y ^^^ BitVec.allOnes 32)).toInt := by
    unfold iand ixor
    rw [Int32.ofInt_toInt]
    rfl
  have e2 : ∀ b : BitVec 32, b.toInt = 0 ↔ b = 0#32 := fun b => ⟨fun h => BitVec.eq_of_toInt_eq (by rw [h]; rfl), fun h => by rw [h]; rfl⟩
  rw [e1, e2]
  constructor
  · intro h j hj hb
    have h1 := congrArg (fun b => BitVec.getLsbD b j) h
    have e32 : decide (j < 32) = true := by simp; omega
    simp only [BitVec.getLsbD_and, BitVec.getLsbD_xor, BitVec.getLsbD_ofNat, BitVec.getLsbD_allOnes, BitVec.getLsbD_zero, e32, Bool.true_and, tb_bt, hb, decide_true, Bool.xor_true] at h1
    have z : bt 0 j = 0 := by simp [bt]
    simpa [z] using h1
  · intro h
    apply BitVec.eq_of_getLsbD_eq
    intro j hj
    have e32 : decide (j < 32) = true := by simp; omega
    simp only [BitVec.getLsbD_and, BitVec.getLsbD_xor, BitVec.getLsbD_ofNat, BitVec.getLsbD_allOnes, BitVec.getLsbD_zero, e32, Bool.true_and, Bool.xor_true]
    by_cases hj2 : j < 12
    · have h1 := h j hj2
      rw [tb_bt, tb_bt]
      by_cases c : bt x j = 1
      · simp [h1 c]
      · simp [c]
    · rw [bt_hi hx (by omega)]
      simp
/-- the sets from x on, n of them -/
def cvA (need : Int) (sb : Nat → Bool) (sv : Nat → Int) : Nat → Nat → Int × Int × Int → Int × Int × Int
  | _, 0, a => a
  | x, n + 1, a => cvA need sb sv (x + 1) n (if sb x = true then cvS need a x (sv x) (pc12 x) else a)
theorem cvA_add {need : Int} {sb : Nat → Bool} {sv : Nat → Int} {k : Nat} : ∀ (n x : Nat) (a : Int × Int × Int), cvA need sb sv x (n + k) a = cvA need sb sv (x + n) k (cvA need sb sv x n a) := by
  intro n
  induction n with
  | zero => intro x a; rw [Nat.zero_add]; rfl
  | succ n ih =>
    intro x a
    rw [show n + 1 + k = (n + k) + 1 by omega]
    simp only [cvA]
    rw [ih, show x + 1 + n = x + (n + 1) by omega]
theorem cvA_no {need : Int} {sb : Nat → Bool} {sv : Nat → Int} : ∀ (n x : Nat) (a : Int × Int × Int), (∀ y, x ≤ y → y < x + n → sb y = false) → cvA need sb sv x n a = a := by
  intro n
  induction n with
  | zero => intro x a _; rfl
  | succ n ih =>
    intro x a h
    simp only [cvA]
    rw [h x (by omega) (by omega), if_neg (by decide)]
    exact ih (x + 1) a (fun y h1 h2 => h y (by omega) (by omega))
def sbB (ok : Nat → Bool) (G x : Nat) : Bool := (List.range 12).all (fun j => decide (bt x j = 0) || (decide (j < G) && ok j))
theorem sbB_is {ok : Nat → Bool} {G x : Nat} : sbB ok G x = true ↔ ∀ j, j < 12 → bt x j = 1 → j < G ∧ ok j = true := by
  unfold sbB
  rw [List.all_eq_true]
  constructor
  · intro h j hj hb
    have := h j (List.mem_range.mpr hj)
    simp [hb] at this
    exact this
  · intro h j hj
    have hj := List.mem_range.mp hj
    rcases bt_1 (x := x) (j := j) with hb | hb
    · simp [hb]
    · have := h j hj hb
      simp [this.1, this.2]
def svS (v : Int → Int) (G x : Nat) : Int := sm (fun j => if bt x j.toNat = 1 then v j else 0) G
theorem bt_at {m g j : Nat} (hm : m % 2 ^ (g + 1) = 0) (hl : m + 2 ^ (g + 1) ≤ 4096) (hg : g < 12) (hj : j < 12) : bt (m + 2 ^ g) j = bt m j + if j = g then 1 else 0 := by
  have h1 := all64_is tb3 (x := m + 2 ^ g) (by have : 2 ^ g < 2 ^ (g + 1) := Nat.pow_lt_pow_right (by decide) (by omega); omega)
  have h2 := List.all_eq_true.mp h1 g (List.mem_range.mpr hg)
  have h3 : (m + 2 ^ g) % 2 ^ (g + 1) = 2 ^ g := by
    rw [Nat.add_mod, hm, Nat.zero_add, Nat.mod_mod, Nat.mod_eq_of_lt (Nat.pow_lt_pow_right (by decide) (by omega))]
  simp only [h3, not_true_eq_false, decide_false, Bool.false_or] at h2
  have h4 := List.all_eq_true.mp h2 j (List.mem_range.mpr hj)
  rw [Nat.add_sub_cancel] at h4
  exact of_decide_eq_true h4
theorem bt_low {m g : Nat} (hm : m % 2 ^ (g + 1) = 0) : bt m g = 0 := by
  unfold bt
  have h1 := Nat.div_add_mod m (2 ^ (g + 1))
  rw [hm, Nat.add_zero] at h1
  rw [← h1, Nat.pow_succ, Nat.mul_assoc, Nat.mul_div_cancel_left _ (Nat.two_pow_pos g)]
  exact Nat.mul_mod_right _ _
theorem bt_blk {m g y : Nat} (hm : m % 2 ^ (g + 1) = 0) (h1 : m + 2 ^ g ≤ y) (h2 : y < m + 2 ^ g + 2 ^ g) : bt y g = 1 := by
  unfold bt
  have h3 := Nat.div_add_mod m (2 ^ (g + 1))
  rw [hm, Nat.add_zero] at h3
  have h0 : 0 < 2 ^ g := Nat.two_pow_pos g
  have e : y = 2 ^ g * (2 * (m / 2 ^ (g + 1)) + 1) + (y - (m + 2 ^ g)) := by
    have h4 : 2 ^ g * (2 * (m / 2 ^ (g + 1)) + 1) = m + 2 ^ g := by
      rw [Nat.mul_add, Nat.mul_one, ← Nat.mul_assoc, ← Nat.pow_succ, h3]
    omega
  rw [e, Nat.mul_add_div h0, Nat.div_eq_of_lt (show y - (m + 2 ^ g) < 2 ^ g by omega), Nat.add_zero, Nat.add_comm, Nat.add_mul_mod_self_left]
theorem sm_upd {f h : Int → Int} {g : Nat} {x : Int} (hg : h g = f g + x) (ho : ∀ j : Nat, j ≠ g → h j = f j) : ∀ n : Nat, sm h n = sm f n + if g < n then x else 0 := by
  intro n
  induction n with
  | zero => simp [sm]
  | succ n ih =>
    simp only [sm]
    rw [ih]
    by_cases c : n = g
    · subst c
      rw [hg, if_neg (by omega), if_pos (by omega)]
      omega
    · rw [ho n c]
      by_cases c2 : g < n
      · rw [if_pos c2, if_pos (by omega)]; omega
      · rw [if_neg c2, if_neg (by omega)]; omega
theorem cvA_F {need : Int} {ok : Nat → Bool} {v : Int → Int} {G : Nat} (hG : G ≤ 12) : ∀ g, g ≤ G → ∀ m, m % 2 ^ g = 0 → m + 2 ^ g ≤ 4096 → sbB ok G m = true → ∀ a, cvA need (sbB ok G) (svS v G) m (2 ^ g) a = cvF need ok v g a m (svS v G m) (pc12 m) := by
  intro g
  induction g with
  | zero =>
    intro _ m _ _ hs a
    show cvA need (sbB ok G) (svS v G) m 1 a = _
    simp only [cvA, cvF]
    rw [if_pos hs]
  | succ g ih =>
    intro hg m hm hl hs a
    have h0 : 2 ^ (g + 1) = 2 ^ g + 2 ^ g := by rw [Nat.pow_succ]; omega
    have hm1 : m % 2 ^ g = 0 := by
      have := Nat.div_add_mod m (2 ^ (g + 1))
      rw [hm, Nat.add_zero, Nat.pow_succ, Nat.mul_assoc] at this
      rw [← this]
      exact Nat.mul_mod_right _ _
    have hm2 : (m + 2 ^ g) % 2 ^ g = 0 := by rw [Nat.add_mod_right]; exact hm1
    rw [h0, cvA_add, ih (by omega) m hm1 (by omega) hs]
    simp only [cvF]
    have hb := fun j hj => bt_at (j := j) hm hl (by omega) hj
    by_cases c : ok g = true
    · rw [if_pos c]
      have hs2 : sbB ok G (m + 2 ^ g) = true := by
        rw [sbB_is] at hs ⊢
        intro j hj hbj
        rw [hb j hj] at hbj
        by_cases e : j = g
        · subst e; exact ⟨by omega, c⟩
        · rw [if_neg e] at hbj; exact hs j hj hbj
      rw [ih (by omega) (m + 2 ^ g) hm2 (by omega) hs2]
      have e1 : ((m + 2 ^ g : Nat) : Int) = (m : Int) + 2 ^ g := by push_cast; rfl
      have e2 : svS v G (m + 2 ^ g) = svS v G m + v g := by
        unfold svS
        have bl := bt_low hm
        rw [sm_upd (f := fun j => if bt m j.toNat = 1 then v j else 0) (g := g) (x := v g), if_pos (by omega)]
        · have hbg := hb g (by omega)
          rw [bl, if_pos rfl] at hbg
          simp [hbg, bl]
        · intro j hj
          simp only [Int.toNat_natCast]
          by_cases hj12 : j < 12
          · have hbj := hb j hj12
            rw [if_neg hj, Nat.add_zero] at hbj
            simp only [hbj]
          · have hx1 : (m + 2 ^ g).testBit j = false := bt_hi (by omega) (by omega)
            have hx2 : m.testBit j = false := bt_hi (by omega) (by omega)
            rw [tb_bt] at hx1 hx2
            simp only [decide_eq_false_iff_not] at hx1 hx2
            rw [if_neg hx1, if_neg hx2]
      have e3 : pc12 (m + 2 ^ g) = pc12 m + 1 := by
        have := pc_at (x := m + 2 ^ g) (i := g) (by omega) (by omega) (by
          rw [Nat.add_mod, hm, Nat.zero_add, Nat.mod_mod, Nat.mod_eq_of_lt (by omega)])
        rw [Nat.add_sub_cancel] at this
        exact this
      rw [e1, e2, e3]
      push_cast
      rfl
    · rw [if_neg c]
      apply cvA_no
      intro y h1 h2
      have hy := bt_blk hm h1 h2
      cases hsb : sbB ok G y
      · rfl
      · exact absurd (sbB_is.mp hsb g (by omega) hy).2 c
def mayN (ok : Nat → Bool) : Nat → Nat
  | 0 => 0
  | n + 1 => mayN ok n + if ok n = true then 2 ^ n else 0
theorem may_lt {ok : Nat → Bool} : ∀ n, mayN ok n < 2 ^ n := by
  intro n
  induction n with
  | zero => simp [mayN]
  | succ n ih =>
    simp only [mayN]
    rw [Nat.pow_succ]
    split <;> omega
theorem may_bt {ok : Nat → Bool} : ∀ n j, bt (mayN ok n) j = 1 ↔ j < n ∧ ok j = true := by
  intro n
  induction n with
  | zero => intro j; simp [mayN, bt]
  | succ n ih =>
    intro j
    have hl := may_lt (ok := ok) n
    have e : bt (mayN ok (n + 1)) j = 1 ↔ (bt (mayN ok n) j = 1 ∨ (ok n = true ∧ j = n)) := by
      simp only [mayN]
      by_cases c : ok n = true
      · rw [if_pos c]
        have h1 : (mayN ok n + 2 ^ n).testBit j = true ↔ ((mayN ok n).testBit j = true ∨ j = n) := by
          rw [Nat.add_comm, show 2 ^ n + mayN ok n = 2 ^ n * 1 + mayN ok n by omega, Nat.two_pow_add_eq_or_of_lt hl, Nat.mul_one, Nat.testBit_or, Nat.testBit_two_pow]
          simp
          constructor
          · rintro (h | h)
            · exact Or.inr h.symm
            · exact Or.inl h
          · rintro (h | h)
            · exact Or.inr h
            · exact Or.inl h.symm
        rw [tb_bt, tb_bt] at h1
        simp only [decide_eq_true_eq] at h1
        rw [h1]
        simp [c]
      · rw [if_neg c]
        simp [c]
    rw [e, ih]
    constructor
    · rintro (⟨h1, h2⟩ | ⟨h1, h2⟩)
      · exact ⟨by omega, h2⟩
      · subst h2; exact ⟨by omega, h1⟩
    · rintro ⟨h1, h2⟩
      by_cases h3 : j = n
      · subst h3; exact Or.inr ⟨h2, rfl⟩
      · exact Or.inl ⟨by omega, h2⟩
theorem may_sub {ok : Nat → Bool} {G x : Nat} (hG : G ≤ 12) (hx : x < 4096) : iand (x : Int) (ixor (mayN ok G : Int) (-1)) = 0 ↔ sbB ok G x = true := by
  have hl := may_lt (ok := ok) G
  have h2 : 2 ^ G ≤ 2 ^ 12 := Nat.pow_le_pow_right (by decide) hG
  rw [and_sub hx (by omega), sbB_is]
  constructor
  · intro h j hj hb
    exact (may_bt G j).mp (h j hj hb)
  · intro h j hj hb
    exact (may_bt G j).mpr (h j hj hb)
