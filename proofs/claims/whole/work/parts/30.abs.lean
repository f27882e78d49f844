/-! THE ABSTRACT STATE: the class's own numbers, by the cells' numbers -/
abbrev St : Type := Nat → Int → Int
def su (S : St) (a : Nat) (i v : Int) : St := fun b j => if b = a ∧ j = i then v else S b j
def sm (f : Int → Int) : Nat → Int
  | 0 => 0
  | n + 1 => sm f n + f n
def exb (p : Int → Bool) : Nat → Bool
  | 0 => false
  | n + 1 => exb p n || p n
theorem lp {n : Nat} (P : Nat → Prop) (hend : P n) (hstep : ∀ i, i < n → P (i + 1) → P i) : P 0 := by
  have h : ∀ m i, i + m = n → P i := by
    intro m
    induction m with
    | zero => intro i hi; rw [show i = n by omega]; exact hend
    | succ m ih => intro i hi; exact hstep i (by omega) (ih (i + 1) (by omega))
  exact h n 0 (by omega)
theorem sm_congr {f g : Int → Int} : ∀ {n : Nat}, (∀ i : Nat, i < n → f i = g i) → sm f n = sm g n := by
  intro n
  induction n with
  | zero => intro _; rfl
  | succ n ih => intro h; simp only [sm]; rw [ih (fun i hi => h i (by omega)), h n (by omega)]
theorem exb_congr {f g : Int → Bool} : ∀ {n : Nat}, (∀ i : Nat, i < n → f i = g i) → exb f n = exb g n := by
  intro n
  induction n with
  | zero => intro _; rfl
  | succ n ih => intro h; simp only [exb]; rw [ih (fun i hi => h i (by omega)), h n (by omega)]
theorem exb_of {p : Int → Bool} {i : Nat} (hp : p i = true) : ∀ {n : Nat}, i < n → exb p n = true := by
  intro n
  induction n with
  | zero => intro h; omega
  | succ n ih =>
    intro h
    simp only [exb]
    by_cases h1 : i = n
    · subst h1; simp [hp]
    · simp [ih (by omega)]
theorem sm_le {f : Int → Int} {b : Int} : ∀ {n : Nat}, (∀ i : Nat, i < n → f i ≤ b) → sm f n ≤ n * b := by
  intro n
  induction n with
  | zero => intro _; simp [sm]
  | succ n ih =>
    intro h
    have h1 := ih (fun i hi => h i (by omega))
    have h2 := h n (by omega)
    have h3 : ((n + 1 : Nat) : Int) * b = n * b + b := by rw [Int.natCast_add, Int.add_mul]; simp
    simp only [sm]
    rw [h3]
    omega
theorem sm_ge {f : Int → Int} {b : Int} : ∀ {n : Nat}, (∀ i : Nat, i < n → b ≤ f i) → n * b ≤ sm f n := by
  intro n
  induction n with
  | zero => intro _; simp [sm]
  | succ n ih =>
    intro h
    have h1 := ih (fun i hi => h i (by omega))
    have h2 := h n (by omega)
    have h3 : ((n + 1 : Nat) : Int) * b = n * b + b := by rw [Int.natCast_add, Int.add_mul]; simp
    simp only [sm]
    rw [h3]
    omega
/-! what of the class's memory is its state -/
def cst (a : Nat) : Bool := decide (a < 2) || (decide (3 ≤ a) && decide (a < 33)) || (decide (63 ≤ a) && decide (a < 68)) || (decide (78 ≤ a) && decide (a < 90)) || (decide (105 ≤ a) && decide (a < 142))
def RC (S : St) (M : Mem) : Prop := (∀ a, cst a = true → ∀ i, pk M a i = S a i) ∧ pk M 2 5 = S 2 5
theorem RC.wz {S : St} {M : Mem} (h : RC S M) (a : Nat) (ha : cst a = true) (i : Int) : wz (S a i) = S a i := by rw [← h.1 a ha i]; exact wz_pk
theorem RC.at {S : St} {M : Mem} (h : RC S M) (a : Nat) (ha : cst a = true) (i : Int) : pk M a i = S a i := h.1 a ha i
/-- a course at its cell b -/
def crs (S : St) (b : Nat) : Prop :=
  (0 ≤ S b 0 ∧ S b 0 ≤ 24) ∧ (∀ i, 0 ≤ i → i < S b 0 → 0 ≤ S (b + 1) i ∧ S (b + 1) i < S 3 2) ∧ (∀ i, 0 ≤ i → i < S b 0 → 0 ≤ S (b + 2) i ∧ S (b + 2) i < S 3 1)
  ∧ (∀ i, 0 ≤ i → i < S b 0 → 0 ≤ S (b + 3) i ∧ S (b + 3) i ≤ 9999) ∧ (∀ i, 0 ≤ i → i < S b 0 → 0 ≤ S (b + 4) i ∧ S (b + 4) i ≤ 2)
  ∧ (∀ g, 0 ≤ g → g < 12 → -1 ≤ S (b + 5) g ∧ S (b + 5) g ≤ 9999) ∧ (∀ g, 0 ≤ g → g < 12 → 0 ≤ S (b + 6) g ∧ S (b + 6) g ≤ 1)
  ∧ (∀ d, 0 ≤ d → d < 6 → 0 ≤ S (b + 7) d ∧ S (b + 7) d ≤ 1) ∧ (∀ p, 0 ≤ p → p < 4 → -1 ≤ S (b + 8) p ∧ S (b + 8) p ≤ 3)
  ∧ (0 ≤ S b 9 ∧ S b 9 ≤ 8) ∧ (∀ k, 0 ≤ k → k < S b 9 → 0 ≤ S (b + 9) k ∧ S (b + 9) k < S 3 2) ∧ (∀ k, 0 ≤ k → k < S b 9 → 1 ≤ S (b + 10) k ∧ S (b + 10) k ≤ 999)
  ∧ (∀ k, 0 ≤ k → k < S b 9 → 0 ≤ S (b + 11) k ∧ S (b + 11) k ≤ 35)
/-- a house -/
def hou (S : St) : Prop :=
  (0 ≤ S 3 0 ∧ S 3 0 ≤ 4) ∧ (0 ≤ S 3 1 ∧ S 3 1 ≤ 12) ∧ (0 ≤ S 3 2 ∧ S 3 2 ≤ 6)
  ∧ (∀ p, 0 ≤ p → p < S 3 0 → 0 ≤ S 4 p ∧ S 4 p ≤ 999) ∧ (∀ p t, 0 ≤ p → p < S 3 0 → 0 ≤ t → t < 36 → 0 ≤ S 5 (36 * p + t) ∧ S 5 (36 * p + t) ≤ 999)
  ∧ (∀ p, 0 ≤ p → p < S 3 0 → 0 ≤ S 10 p ∧ S 10 p ≤ 10000) ∧ (∀ g, 0 ≤ g → g < S 3 1 → 0 ≤ S 11 g ∧ S 11 g < S 3 0)
  ∧ (∀ g, 0 ≤ g → g < S 3 1 → 1 ≤ S 12 g ∧ S 12 g ≤ 999) ∧ (∀ g, 0 ≤ g → g < S 3 1 → 0 ≤ S 13 g ∧ S 13 g ≤ 5)
  ∧ (∀ g p, 0 ≤ g → g < S 3 1 → 0 ≤ p → p < 4 → 0 ≤ S 14 (4 * g + p) ∧ S 14 (4 * g + p) ≤ 12)
  ∧ (∀ g, 0 ≤ g → g < S 3 1 → 0 ≤ S 27 g ∧ S 27 g ≤ 10000) ∧ (∀ g, 0 ≤ g → g < S 3 1 → 0 ≤ S 28 g ∧ S 28 g ≤ 10000)
  ∧ (∀ d, 0 ≤ d → d < S 3 2 → 0 ≤ S 29 d ∧ S 29 d < S 3 0) ∧ (∀ d, 0 ≤ d → d < S 3 2 → 1 ≤ S 30 d ∧ S 30 d ≤ 9999) ∧ (∀ d, 0 ≤ d → d < S 3 2 → 0 ≤ S 31 d ∧ S 31 d ≤ 9999)
  ∧ (∀ k, 0 ≤ k → k < 4 → 0 ≤ S 32 k ∧ S 32 k ≤ 99)
theorem hou.np {S : St} (h : hou S) : (0 ≤ S 3 0 ∧ S 3 0 ≤ 4) := h.1
theorem hou.ng {S : St} (h : hou S) : (0 ≤ S 3 1 ∧ S 3 1 ≤ 12) := h.2.1
theorem hou.nd {S : St} (h : hou S) : (0 ≤ S 3 2 ∧ S 3 2 ≤ 6) := h.2.2.1
theorem hou.needs {S : St} (h : hou S) : (∀ p, 0 ≤ p → p < S 3 0 → 0 ≤ S 4 p ∧ S 4 p ≤ 999) := h.2.2.2.1
theorem hou.inc {S : St} (h : hou S) : (∀ p t, 0 ≤ p → p < S 3 0 → 0 ≤ t → t < 36 → 0 ≤ S 5 (36 * p + t) ∧ S 5 (36 * p + t) ≤ 999) := h.2.2.2.2.1
theorem hou.ill {S : St} (h : hou S) : (∀ p, 0 ≤ p → p < S 3 0 → 0 ≤ S 10 p ∧ S 10 p ≤ 10000) := h.2.2.2.2.2.1
theorem hou.own {S : St} (h : hou S) : (∀ g, 0 ≤ g → g < S 3 1 → 0 ≤ S 11 g ∧ S 11 g < S 3 0) := h.2.2.2.2.2.2.1
theorem hou.wor {S : St} (h : hou S) : (∀ g, 0 ≤ g → g < S 3 1 → 1 ≤ S 12 g ∧ S 12 g ≤ 999) := h.2.2.2.2.2.2.2.1
theorem hou.kind {S : St} (h : hou S) : (∀ g, 0 ≤ g → g < S 3 1 → 0 ≤ S 13 g ∧ S 13 g ≤ 5) := h.2.2.2.2.2.2.2.2.1
theorem hou.tw {S : St} (h : hou S) : (∀ g p, 0 ≤ g → g < S 3 1 → 0 ≤ p → p < 4 → 0 ≤ S 14 (4 * g + p) ∧ S 14 (4 * g + p) ≤ 12) := h.2.2.2.2.2.2.2.2.2.1
theorem hou.said {S : St} (h : hou S) : (∀ g, 0 ≤ g → g < S 3 1 → 0 ≤ S 27 g ∧ S 27 g ≤ 10000) := h.2.2.2.2.2.2.2.2.2.2.1
theorem hou.prf {S : St} (h : hou S) : (∀ g, 0 ≤ g → g < S 3 1 → 0 ≤ S 28 g ∧ S 28 g ≤ 10000) := h.2.2.2.2.2.2.2.2.2.2.2.1
theorem hou.dbt {S : St} (h : hou S) : (∀ d, 0 ≤ d → d < S 3 2 → 0 ≤ S 29 d ∧ S 29 d < S 3 0) := h.2.2.2.2.2.2.2.2.2.2.2.2.1
theorem hou.amt {S : St} (h : hou S) : (∀ d, 0 ≤ d → d < S 3 2 → 1 ≤ S 30 d ∧ S 30 d ≤ 9999) := h.2.2.2.2.2.2.2.2.2.2.2.2.2.1
theorem hou.writ {S : St} (h : hou S) : (∀ d, 0 ≤ d → d < S 3 2 → 0 ≤ S 31 d ∧ S 31 d ≤ 9999) := h.2.2.2.2.2.2.2.2.2.2.2.2.2.2.1
theorem hou.fee {S : St} (h : hou S) : (∀ k, 0 ≤ k → k < 4 → 0 ≤ S 32 k ∧ S 32 k ≤ 99) := h.2.2.2.2.2.2.2.2.2.2.2.2.2.2.2
theorem crs.acts {S : St} {b : Nat} (h : crs S b) : (0 ≤ S b 0 ∧ S b 0 ≤ 24) := h.1
theorem crs.ad {S : St} {b : Nat} (h : crs S b) : (∀ i, 0 ≤ i → i < S b 0 → 0 ≤ S (b + 1) i ∧ S (b + 1) i < S 3 2) := h.2.1
theorem crs.ag {S : St} {b : Nat} (h : crs S b) : (∀ i, 0 ≤ i → i < S b 0 → 0 ≤ S (b + 2) i ∧ S (b + 2) i < S 3 1) := h.2.2.1
theorem crs.am {S : St} {b : Nat} (h : crs S b) : (∀ i, 0 ≤ i → i < S b 0 → 0 ≤ S (b + 3) i ∧ S (b + 3) i ≤ 9999) := h.2.2.2.1
theorem crs.ao {S : St} {b : Nat} (h : crs S b) : (∀ i, 0 ≤ i → i < S b 0 → 0 ≤ S (b + 4) i ∧ S (b + 4) i ≤ 2) := h.2.2.2.2.1
theorem crs.sold {S : St} {b : Nat} (h : crs S b) : (∀ g, 0 ≤ g → g < 12 → -1 ≤ S (b + 5) g ∧ S (b + 5) g ≤ 9999) := h.2.2.2.2.2.1
theorem crs.given {S : St} {b : Nat} (h : crs S b) : (∀ g, 0 ≤ g → g < 12 → 0 ≤ S (b + 6) g ∧ S (b + 6) g ≤ 1) := h.2.2.2.2.2.2.1
theorem crs.aside {S : St} {b : Nat} (h : crs S b) : (∀ d, 0 ≤ d → d < 6 → 0 ≤ S (b + 7) d ∧ S (b + 7) d ≤ 1) := h.2.2.2.2.2.2.2.1
theorem crs.stage {S : St} {b : Nat} (h : crs S b) : (∀ p, 0 ≤ p → p < 4 → -1 ≤ S (b + 8) p ∧ S (b + 8) p ≤ 3) := h.2.2.2.2.2.2.2.2.1
theorem crs.proms {S : St} {b : Nat} (h : crs S b) : (0 ≤ S b 9 ∧ S b 9 ≤ 8) := h.2.2.2.2.2.2.2.2.2.1
theorem crs.pd {S : St} {b : Nat} (h : crs S b) : (∀ k, 0 ≤ k → k < S b 9 → 0 ≤ S (b + 9) k ∧ S (b + 9) k < S 3 2) := h.2.2.2.2.2.2.2.2.2.2.1
theorem crs.pm {S : St} {b : Nat} (h : crs S b) : (∀ k, 0 ≤ k → k < S b 9 → 1 ≤ S (b + 10) k ∧ S (b + 10) k ≤ 999) := h.2.2.2.2.2.2.2.2.2.2.2.1
theorem crs.pf {S : St} {b : Nat} (h : crs S b) : (∀ k, 0 ≤ k → k < S b 9 → 0 ≤ S (b + 11) k ∧ S (b + 11) k ≤ 35) := h.2.2.2.2.2.2.2.2.2.2.2.2
/-! the document's words, of a state -/
def cut (S : St) (g p x : Int) : Int := x * S 14 (4 * g + p) / 12
def share (S : St) (g p x : Int) : Int := if p ≠ S 11 g then cut S g p x else x - sm (fun o => if o = p then 0 else cut S g o x) (S 3 0).toNat
def feesTo (S : St) (k : Int) : Int := sm (fun j => S 32 j) (k + 1).toNat
def lastMin (S : St) : Int := if 0 < S 78 0 then S 81 (S 78 0 - 1) else 0
def listedN (S : St) (g : Int) : Int := sm (fun i => if S 80 i = g then 1 else 0) (S 78 0).toNat
def listedFor (S : St) (d g : Int) : Bool := exb (fun i => decide (S 80 i = g ∧ S 79 i = d)) (S 78 0).toNat
def isFor (S : St) (g p : Int) : Bool := exb (fun i => decide (S 80 i = g ∧ S 29 (S 79 i) = p)) (S 78 0).toNat
def gone (S : St) (g : Int) : Bool := decide (S 83 g ≠ -1 ∨ S 84 g ≠ 0)
def owedIn (S : St) (p t : Int) : Int := sm (fun d => if S 29 d = p ∧ S 31 d ≤ t ∧ S 85 d = 0 then S 30 d else 0) (S 3 2).toNat
def bi (b : Bool) : Int := if b then 1 else 0
def rI (x : Int) : MOut := .inl (some (vI x))
