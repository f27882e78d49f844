/-! BITS of numbers below 4096, by tables -/
def bt (x j : Nat) : Nat := x / 2 ^ j % 2
def pc12 (x : Nat) : Nat := bt x 0 + bt x 1 + bt x 2 + bt x 3 + bt x 4 + bt x 5 + bt x 6 + bt x 7 + bt x 8 + bt x 9 + bt x 10 + bt x 11
def bc1 (x : Int) : Int := x - iand (iush x 1) 1431655765
def bc2 (x : Int) : Int := iand x 858993459 + iand (iush x 2) 858993459
def bc3 (x : Int) : Int := iand (x + iush x 4) 252645135
def bc4 (x : Int) : Int := x + iush x 8
def bc5 (x : Int) : Int := x + iush x 16
def bcI (x : Int) : Int := iand (bc5 (bc4 (bc3 (bc2 (bc1 x))))) 63
def all64 (f : Nat → Bool) : Bool := (List.range 64).all (fun i => (List.range 64).all (fun j => f (64 * i + j)))
theorem all64_is {f : Nat → Bool} (h : all64 f = true) {x : Nat} (hx : x < 4096) : f x = true := by
  have h1 := List.all_eq_true.mp h (x / 64) (List.mem_range.mpr (by omega))
  have h2 := List.all_eq_true.mp h1 (x % 64) (List.mem_range.mpr (by omega))
  rw [show 64 * (x / 64) + x % 64 = x by omega] at h2
  exact h2
theorem tb1 : all64 (fun x => decide (bcI (x : Int) = (pc12 x : Int))) = true := by decide +kernel
theorem tb2 : all64 (fun x => (List.range 12).all (fun i => decide (¬ x % 2 ^ (i + 1) = 2 ^ i) || decide (bcI (iand (x : Int) (-(x : Int)) - 1) = (i : Int)))) = true := by decide +kernel
theorem tb3 : all64 (fun x => (List.range 12).all (fun i => decide (¬ x % 2 ^ (i + 1) = 2 ^ i) || (List.range 12).all (fun j => decide (bt x j = bt (x - 2 ^ i) j + if j = i then 1 else 0)))) = true := by decide +kernel
def allP (f : Nat → Nat → Bool) : Bool := (List.range 12).all (fun g => (List.range (2 ^ g / 64 + 1)).all (fun i => (List.range 64).all (fun j => !decide (64 * i + j < 2 ^ g) || f g (64 * i + j))))
theorem allP_is {f : Nat → Nat → Bool} (h : allP f = true) {g x : Nat} (hg : g < 12) (hx : x < 2 ^ g) : f g x = true := by
  have h0 := List.all_eq_true.mp h g (List.mem_range.mpr hg)
  have h1 := List.all_eq_true.mp h0 (x / 64) (List.mem_range.mpr (by have : x / 64 ≤ 2 ^ g / 64 := Nat.div_le_div_right (by omega); omega))
  have h2 := List.all_eq_true.mp h1 (x % 64) (List.mem_range.mpr (by omega))
  rw [show 64 * (x / 64) + x % 64 = x by omega] at h2
  simpa [hx] using h2
theorem tb4 : allP (fun g x => decide (ior (x : Int) (ishl 1 (g : Int)) = (x : Int) + 2 ^ g)) = true := by decide +kernel
theorem tb6 : all64 (fun x => (List.range 12).all (fun j => decide (iand (ishr (x : Int) (j : Int)) 1 = (bt x j : Int)))) = true := by decide +kernel
theorem tb5 : (List.range 13).all (fun g => decide (ishl 1 (g : Int) = 2 ^ g)) = true := by decide +kernel
theorem tb7 : all64 (fun x => decide (x = 0) || (decide (0 ≤ iand (x : Int) ((x : Int) - 1)) && decide (iand (x : Int) ((x : Int) - 1) < (x : Int)) && decide (pc12 (iand (x : Int) ((x : Int) - 1)).toNat + 1 = pc12 x))) = true := by decide +kernel
