/-! THE ABSTRACT STATE: the class's own numbers, by the cells' numbers -/
abbrev St : Type := Nat → Int → Int
def su (S : St) (a : Nat) (i v : Int) : St := fun b j => if b = a ∧ j = i then v else S b j
def sm (f : Int → Int) : Nat → Int
  | 0 => 0
  | n + 1 => sm f n + f n
def exb (p : Int → Bool) : Nat → Bool
  | 0 => false
  | n + 1 => exb p n || p n
theorem lp {n : Nat} (P : Nat → Prop) (hend : P n) (hstep : ∀ i, i < n → P (i + 1) → P i) : P 0 := by
  have h : ∀ m i, i + m = n → P i := by
    intro m
    induction m with
    | zero => intro i hi; rw [show i = n by omega]; exact hend
    | succ m ih => intro i hi; exact hstep i (by omega) (ih (i + 1) (by omega))
  exact h n 0 (by omega)
theorem sm_congr {f g : Int → Int} : ∀ {n : Nat}, (∀ i : Nat, i < n → f i = g i) → sm f n = sm g n := by
  intro n
  induction n with
  | zero => intro _; rfl
  | succ n ih => intro h; simp only [sm]; rw [ih (fun i hi => h i (by omega)), h n (by omega)]
theorem exb_congr {f g : Int → Bool} : ∀ {n : Nat}, (∀ i : Nat, i < n → f i = g i) → exb f n = exb g n := by
  intro n
  induction n with
  | zero => intro _; rfl
  | succ n ih => intro h; simp only [exb]; rw [ih (fun i hi => h i (by omega)), h n (by omega)]
theorem exb_of {p : Int → Bool} {i : Nat} (hp : p i = true) : ∀ {n : Nat}, i < n → exb p n = true := by
  intro n
  induction n with
  | zero => intro h; omega
  | succ n ih =>
    intro h
    simp only [exb]
    by_cases h1 : i = n
    · subst h1; simp [hp]
    · simp [ih (by omega)]
theorem sm_le {f : Int → Int} {b : Int} : ∀ {n : Nat}, (∀ i : Nat, i < n → f i ≤ b) → sm f n ≤ n * b := by
  intro n
  induction n with
  | zero => intro _; simp [sm]
  | succ n ih =>
    intro h
    have h1 := ih (fun i hi => h i (by omega))
    have h2 := h n (by omega)
    have h3 : ((n + 1 : Nat) : Int) * b = n * b + b := by rw [Int.natCast_add, Int.add_mul]; simp
    simp only [sm]
    rw [h3]
    omega
theorem sm_ge {f : Int → Int} {b : Int} : ∀ {n : Nat}, (∀ i : Nat, i < n → b ≤ f i) → n * b ≤ sm f n := by
  intro n
  induction n with
  | zero => intro _; simp [sm]
  | succ n ih =>
    intro h
    have h1 := ih (fun i hi => h i (by omega))
    have h2 := h n (by omega)
    have h3 : ((n + 1 : Nat) : Int) * b = n * b + b := by rw [Int.natCast_add, Int.add_mul]; simp
    simp only [sm]
    rw [h3]
    omega
/-! what of the class's memory is its state -/
def cst (a : Nat) : Bool := decide (a < 2) || (decide (3 ≤ a) && decide (a < 68)) || (decide (69 ≤ a) && decide (a < 74)) || (decide (78 ≤ a) && decide (a < 90)) || (decide (105 ≤ a) && decide (a < 142))
def RC (S : St) (M : Mem) : Prop := (∀ a, cst a = true → ∀ i, pk M a i = S a i) ∧ pk M 2 5 = S 2 5
theorem RC.wzz {S : St} {M : Mem} (h : RC S M) (a : Nat) (ha : cst a = true) (i : Int) : wz (S a i) = S a i := by rw [← h.1 a ha i]; exact wz_pk
theorem RC.at {S : St} {M : Mem} (h : RC S M) (a : Nat) (ha : cst a = true) (i : Int) : pk M a i = S a i := h.1 a ha i
theorem RC.pw {S : St} {M : Mem} {a : Nat} {i x : Int} (h : RC S M) (ha : cst a = false) (h2 : a ≠ 2) : RC S (po M a i x) := by
  obtain ⟨h3, h4⟩ := h
  refine ⟨fun b hb j => ?_, ?_⟩
  · rw [pk_po, if_neg ?_]
    · exact h3 b hb j
    · rintro ⟨rfl, -⟩
      rw [ha] at hb
      cases hb
  · rw [pk_po, if_neg (by omega)]
    exact h4
theorem RC.fr {S : St} {M M' : Mem} {n : Nat} (h : RC S M) (hn : cst n = false) (h2 : n ≠ 2) (hf : ∀ a, a ≠ n → M' a = M a) : RC S M' := by
  obtain ⟨h3, h4⟩ := h
  have e : ∀ a, a ≠ n → ∀ i, pk M' a i = pk M a i := fun a ha i => by unfold pk; rw [hf a ha]
  refine ⟨fun b hb j => ?_, ?_⟩
  · rw [e b ?_, h3 b hb j]
    rintro rfl
    rw [hn] at hb
    cases hb
  · rw [e 2 (fun h => h2 h.symm), h4]
theorem pk_po_ne {M : Mem} {a b : Nat} {i j x : Int} (h : b ≠ a) : pk (po M a i x) b j = pk M b j := by rw [pk_po, if_neg (fun h1 => h h1.1)]
theorem pk_po_eq {M : Mem} {a : Nat} {i x : Int} : pk (po M a i x) a i = wz x := by rw [pk_po, if_pos ⟨rfl, rfl⟩]
theorem pk_po_ix {M : Mem} {a : Nat} {i j x : Int} (h : j ≠ i) : pk (po M a i x) a j = pk M a j := by rw [pk_po, if_neg (fun h1 => h h1.2)]
theorem mrg {c : Prop} [Decidable c] {k : Nat} {is : List (Nat × MI)} {ls st : List Value} {h : MHp} {Q : MOut → MHp → Prop} {x y : Int} : (if c then EX k is ls (vI x :: st) h Q else EX k is ls (vI y :: st) h Q) ↔ EX k is ls (vI (if c then x else y) :: st) h Q := by split <;> rfl
/-- a course at its cell b -/
def crs (S : St) (b : Nat) : Prop :=
  (0 ≤ S b 0 ∧ S b 0 ≤ 24) ∧ (∀ i, 0 ≤ i → i < S b 0 → 0 ≤ S (b + 1) i ∧ S (b + 1) i < S 3 2) ∧ (∀ i, 0 ≤ i → i < S b 0 → 0 ≤ S (b + 2) i ∧ S (b + 2) i < S 3 1)
  ∧ (∀ i, 0 ≤ i → i < S b 0 → 0 ≤ S (b + 3) i ∧ S (b + 3) i ≤ 9999) ∧ (∀ i, 0 ≤ i → i < S b 0 → 0 ≤ S (b + 4) i ∧ S (b + 4) i ≤ 2)
  ∧ (∀ g, 0 ≤ g → g < 12 → -1 ≤ S (b + 5) g ∧ S (b + 5) g ≤ 9999) ∧ (∀ g, 0 ≤ g → g < 12 → 0 ≤ S (b + 6) g ∧ S (b + 6) g ≤ 1)
  ∧ (∀ d, 0 ≤ d → d < 6 → 0 ≤ S (b + 7) d ∧ S (b + 7) d ≤ 1) ∧ (∀ p, 0 ≤ p → p < 4 → -1 ≤ S (b + 8) p ∧ S (b + 8) p ≤ 3)
  ∧ (0 ≤ S b 9 ∧ S b 9 ≤ 8) ∧ (∀ k, 0 ≤ k → k < S b 9 → 0 ≤ S (b + 9) k ∧ S (b + 9) k < S 3 2) ∧ (∀ k, 0 ≤ k → k < S b 9 → 1 ≤ S (b + 10) k ∧ S (b + 10) k ≤ 999)
  ∧ (∀ k, 0 ≤ k → k < S b 9 → 0 ≤ S (b + 11) k ∧ S (b + 11) k ≤ 35)
/-- a house -/
def hou (S : St) : Prop :=
  (0 ≤ S 3 0 ∧ S 3 0 ≤ 4) ∧ (0 ≤ S 3 1 ∧ S 3 1 ≤ 12) ∧ (0 ≤ S 3 2 ∧ S 3 2 ≤ 6)
  ∧ (∀ p, 0 ≤ p → p < S 3 0 → 0 ≤ S 4 p ∧ S 4 p ≤ 999) ∧ (∀ p t, 0 ≤ p → p < S 3 0 → 0 ≤ t → t < 36 → 0 ≤ S 5 (36 * p + t) ∧ S 5 (36 * p + t) ≤ 999)
  ∧ (∀ p, 0 ≤ p → p < S 3 0 → 0 ≤ S 10 p ∧ S 10 p ≤ 10000) ∧ (∀ g, 0 ≤ g → g < S 3 1 → 0 ≤ S 11 g ∧ S 11 g < S 3 0)
  ∧ (∀ g, 0 ≤ g → g < S 3 1 → 1 ≤ S 12 g ∧ S 12 g ≤ 999) ∧ (∀ g, 0 ≤ g → g < S 3 1 → 0 ≤ S 13 g ∧ S 13 g ≤ 5)
  ∧ (∀ g p, 0 ≤ g → g < S 3 1 → 0 ≤ p → p < 4 → 0 ≤ S 14 (4 * g + p) ∧ S 14 (4 * g + p) ≤ 12)
  ∧ (∀ g, 0 ≤ g → g < S 3 1 → 0 ≤ S 27 g ∧ S 27 g ≤ 10000) ∧ (∀ g, 0 ≤ g → g < S 3 1 → 0 ≤ S 28 g ∧ S 28 g ≤ 10000)
  ∧ (∀ d, 0 ≤ d → d < S 3 2 → 0 ≤ S 29 d ∧ S 29 d < S 3 0) ∧ (∀ d, 0 ≤ d → d < S 3 2 → 1 ≤ S 30 d ∧ S 30 d ≤ 9999) ∧ (∀ d, 0 ≤ d → d < S 3 2 → 0 ≤ S 31 d ∧ S 31 d ≤ 9999)
  ∧ (∀ k, 0 ≤ k → k < 4 → 0 ≤ S 32 k ∧ S 32 k ≤ 99)
theorem hou.np {S : St} (h : hou S) : (0 ≤ S 3 0 ∧ S 3 0 ≤ 4) := h.1
theorem hou.ng {S : St} (h : hou S) : (0 ≤ S 3 1 ∧ S 3 1 ≤ 12) := h.2.1
theorem hou.nd {S : St} (h : hou S) : (0 ≤ S 3 2 ∧ S 3 2 ≤ 6) := h.2.2.1
theorem hou.needs {S : St} (h : hou S) : (∀ p, 0 ≤ p → p < S 3 0 → 0 ≤ S 4 p ∧ S 4 p ≤ 999) := h.2.2.2.1
theorem hou.inc {S : St} (h : hou S) : (∀ p t, 0 ≤ p → p < S 3 0 → 0 ≤ t → t < 36 → 0 ≤ S 5 (36 * p + t) ∧ S 5 (36 * p + t) ≤ 999) := h.2.2.2.2.1
theorem hou.ill {S : St} (h : hou S) : (∀ p, 0 ≤ p → p < S 3 0 → 0 ≤ S 10 p ∧ S 10 p ≤ 10000) := h.2.2.2.2.2.1
theorem hou.own {S : St} (h : hou S) : (∀ g, 0 ≤ g → g < S 3 1 → 0 ≤ S 11 g ∧ S 11 g < S 3 0) := h.2.2.2.2.2.2.1
theorem hou.wor {S : St} (h : hou S) : (∀ g, 0 ≤ g → g < S 3 1 → 1 ≤ S 12 g ∧ S 12 g ≤ 999) := h.2.2.2.2.2.2.2.1
theorem hou.kind {S : St} (h : hou S) : (∀ g, 0 ≤ g → g < S 3 1 → 0 ≤ S 13 g ∧ S 13 g ≤ 5) := h.2.2.2.2.2.2.2.2.1
theorem hou.tw {S : St} (h : hou S) : (∀ g p, 0 ≤ g → g < S 3 1 → 0 ≤ p → p < 4 → 0 ≤ S 14 (4 * g + p) ∧ S 14 (4 * g + p) ≤ 12) := h.2.2.2.2.2.2.2.2.2.1
theorem hou.said {S : St} (h : hou S) : (∀ g, 0 ≤ g → g < S 3 1 → 0 ≤ S 27 g ∧ S 27 g ≤ 10000) := h.2.2.2.2.2.2.2.2.2.2.1
theorem hou.prf {S : St} (h : hou S) : (∀ g, 0 ≤ g → g < S 3 1 → 0 ≤ S 28 g ∧ S 28 g ≤ 10000) := h.2.2.2.2.2.2.2.2.2.2.2.1
theorem hou.dbt {S : St} (h : hou S) : (∀ d, 0 ≤ d → d < S 3 2 → 0 ≤ S 29 d ∧ S 29 d < S 3 0) := h.2.2.2.2.2.2.2.2.2.2.2.2.1
theorem hou.amt {S : St} (h : hou S) : (∀ d, 0 ≤ d → d < S 3 2 → 1 ≤ S 30 d ∧ S 30 d ≤ 9999) := h.2.2.2.2.2.2.2.2.2.2.2.2.2.1
theorem hou.writ {S : St} (h : hou S) : (∀ d, 0 ≤ d → d < S 3 2 → 0 ≤ S 31 d ∧ S 31 d ≤ 9999) := h.2.2.2.2.2.2.2.2.2.2.2.2.2.2.1
theorem hou.fee {S : St} (h : hou S) : (∀ k, 0 ≤ k → k < 4 → 0 ≤ S 32 k ∧ S 32 k ≤ 99) := h.2.2.2.2.2.2.2.2.2.2.2.2.2.2.2
theorem crs.acts {S : St} {b : Nat} (h : crs S b) : (0 ≤ S b 0 ∧ S b 0 ≤ 24) := h.1
theorem crs.ad {S : St} {b : Nat} (h : crs S b) : (∀ i, 0 ≤ i → i < S b 0 → 0 ≤ S (b + 1) i ∧ S (b + 1) i < S 3 2) := h.2.1
theorem crs.ag {S : St} {b : Nat} (h : crs S b) : (∀ i, 0 ≤ i → i < S b 0 → 0 ≤ S (b + 2) i ∧ S (b + 2) i < S 3 1) := h.2.2.1
theorem crs.am {S : St} {b : Nat} (h : crs S b) : (∀ i, 0 ≤ i → i < S b 0 → 0 ≤ S (b + 3) i ∧ S (b + 3) i ≤ 9999) := h.2.2.2.1
theorem crs.ao {S : St} {b : Nat} (h : crs S b) : (∀ i, 0 ≤ i → i < S b 0 → 0 ≤ S (b + 4) i ∧ S (b + 4) i ≤ 2) := h.2.2.2.2.1
theorem crs.sold {S : St} {b : Nat} (h : crs S b) : (∀ g, 0 ≤ g → g < 12 → -1 ≤ S (b + 5) g ∧ S (b + 5) g ≤ 9999) := h.2.2.2.2.2.1
theorem crs.given {S : St} {b : Nat} (h : crs S b) : (∀ g, 0 ≤ g → g < 12 → 0 ≤ S (b + 6) g ∧ S (b + 6) g ≤ 1) := h.2.2.2.2.2.2.1
theorem crs.aside {S : St} {b : Nat} (h : crs S b) : (∀ d, 0 ≤ d → d < 6 → 0 ≤ S (b + 7) d ∧ S (b + 7) d ≤ 1) := h.2.2.2.2.2.2.2.1
theorem crs.stage {S : St} {b : Nat} (h : crs S b) : (∀ p, 0 ≤ p → p < 4 → -1 ≤ S (b + 8) p ∧ S (b + 8) p ≤ 3) := h.2.2.2.2.2.2.2.2.1
theorem crs.proms {S : St} {b : Nat} (h : crs S b) : (0 ≤ S b 9 ∧ S b 9 ≤ 8) := h.2.2.2.2.2.2.2.2.2.1
theorem crs.pd {S : St} {b : Nat} (h : crs S b) : (∀ k, 0 ≤ k → k < S b 9 → 0 ≤ S (b + 9) k ∧ S (b + 9) k < S 3 2) := h.2.2.2.2.2.2.2.2.2.2.1
theorem crs.pm {S : St} {b : Nat} (h : crs S b) : (∀ k, 0 ≤ k → k < S b 9 → 1 ≤ S (b + 10) k ∧ S (b + 10) k ≤ 999) := h.2.2.2.2.2.2.2.2.2.2.2.1
theorem crs.pf {S : St} {b : Nat} (h : crs S b) : (∀ k, 0 ≤ k → k < S b 9 → 0 ≤ S (b + 11) k ∧ S (b + 11) k ≤ 35) := h.2.2.2.2.2.2.2.2.2.2.2.2
theorem c78_acts {S : St} (h : crs S 78) : (0 ≤ S 78 0 ∧ S 78 0 ≤ 24) := h.acts
theorem c78_ad {S : St} (h : crs S 78) : (∀ i, 0 ≤ i → i < S 78 0 → 0 ≤ S 79 i ∧ S 79 i < S 3 2) := h.ad
theorem c78_ag {S : St} (h : crs S 78) : (∀ i, 0 ≤ i → i < S 78 0 → 0 ≤ S 80 i ∧ S 80 i < S 3 1) := h.ag
theorem c78_am {S : St} (h : crs S 78) : (∀ i, 0 ≤ i → i < S 78 0 → 0 ≤ S 81 i ∧ S 81 i ≤ 9999) := h.am
theorem c78_ao {S : St} (h : crs S 78) : (∀ i, 0 ≤ i → i < S 78 0 → 0 ≤ S 82 i ∧ S 82 i ≤ 2) := h.ao
theorem c78_sold {S : St} (h : crs S 78) : (∀ g, 0 ≤ g → g < 12 → -1 ≤ S 83 g ∧ S 83 g ≤ 9999) := h.sold
theorem c78_given {S : St} (h : crs S 78) : (∀ g, 0 ≤ g → g < 12 → 0 ≤ S 84 g ∧ S 84 g ≤ 1) := h.given
theorem c78_aside {S : St} (h : crs S 78) : (∀ d, 0 ≤ d → d < 6 → 0 ≤ S 85 d ∧ S 85 d ≤ 1) := h.aside
theorem c78_stage {S : St} (h : crs S 78) : (∀ p, 0 ≤ p → p < 4 → -1 ≤ S 86 p ∧ S 86 p ≤ 3) := h.stage
theorem c78_proms {S : St} (h : crs S 78) : (0 ≤ S 78 9 ∧ S 78 9 ≤ 8) := h.proms
theorem c78_pd {S : St} (h : crs S 78) : (∀ k, 0 ≤ k → k < S 78 9 → 0 ≤ S 87 k ∧ S 87 k < S 3 2) := h.pd
theorem c78_pm {S : St} (h : crs S 78) : (∀ k, 0 ≤ k → k < S 78 9 → 1 ≤ S 88 k ∧ S 88 k ≤ 999) := h.pm
theorem c78_pf {S : St} (h : crs S 78) : (∀ k, 0 ≤ k → k < S 78 9 → 0 ≤ S 89 k ∧ S 89 k ≤ 35) := h.pf
/-! the document's words, of a state -/
def cut (S : St) (g p x : Int) : Int := x * S 14 (4 * g + p) / 12
def share (S : St) (g p x : Int) : Int := if p ≠ S 11 g then cut S g p x else x - sm (fun o => if o = p then 0 else cut S g o x) (S 3 0).toNat
def feesTo (S : St) (k : Int) : Int := sm (fun j => S 32 j) (k + 1).toNat
def lastMin (S : St) : Int := if 0 < S 78 0 then S 81 (S 78 0 - 1) else 0
def listedN (S : St) (g : Int) : Int := sm (fun i => if S 80 i = g then 1 else 0) (S 78 0).toNat
def listedFor (S : St) (d g : Int) : Bool := exb (fun i => decide (S 80 i = g ∧ S 79 i = d)) (S 78 0).toNat
def isFor (S : St) (g p : Int) : Bool := exb (fun i => decide (S 80 i = g ∧ S 29 (S 79 i) = p)) (S 78 0).toNat
def gone (S : St) (g : Int) : Bool := decide (S 83 g ≠ -1 ∨ S 84 g ≠ 0)
def owedIn (S : St) (p t : Int) : Int := sm (fun d => if S 29 d = p ∧ S 31 d ≤ t ∧ S 85 d = 0 then S 30 d else 0) (S 3 2).toNat
def bi (b : Bool) : Int := if b then 1 else 0
def rI (x : Int) : MOut := .inl (some (vI x))
theorem bk_r {k pc : Nat} {is : List (Nat × MI)} {ls st : List Value} {Q : MOut → MHp → Prop} {x : Int} {h : MHp} : bk k pc is ls st Q (rI x) h = EX k is ls (vI x :: st) h Q := rfl
/-- what is asked of a taking -/
def fct (S : St) (d g m o w : Int) (j : Int) : Int :=
  if j = 0 then S 13 g else if j = 1 then S 12 g else if j = 2 then owedIn S (S 29 d) m else if j = 3 then m / 60 % 24
  else if j = 4 then (if S 10 (S 29 d) ≤ w then 1 else 0) else if j = 5 then (if S 27 g ≤ w then 1 else 0) else if j = 6 then (if S 28 g ≤ w then 1 else 0)
  else if j = 7 then (if o = 2 then 1 else 0) else if j = 8 then (if S 14 (4 * g + S 29 d) < 12 then 1 else 0) else if S 14 (4 * g + S 29 d) = 0 then 1 else 0
/-! a law's rules: rows of codes, an array with its top -/
def upi (f : Int → Int) (i x : Int) : Int → Int := fun j => if j = i then x else f j
def atomv (S : St) (f : Int → Int) (i : Int) : Bool := if S 64 i = 4 then decide (f (S 65 i) < S 66 i) else if S 64 i = 5 then decide (S 66 i < f (S 65 i)) else decide (f (S 65 i) = S 66 i)
def ev1 (S : St) (f : Int → Int) (i : Int) (q : Int × (Int → Int)) : Int × (Int → Int) :=
  if 4 ≤ S 64 i then (q.1 + 1, upi q.2 q.1 (bi (atomv S f i)))
  else if S 64 i = 3 then (q.1, upi q.2 (q.1 - 1) (1 - q.2 (q.1 - 1)))
  else if S 64 i = 2 then (q.1 - 1, upi q.2 (q.1 - 2) (if q.2 (q.1 - 2) = 0 then 0 else q.2 (q.1 - 1)))
  else (q.1 - 1, upi q.2 (q.1 - 2) (if q.2 (q.1 - 2) = 0 then q.2 (q.1 - 1) else 1))
def evn (S : St) (f : Int → Int) (i0 : Int) : Nat → Int × (Int → Int)
  | 0 => (0, fun _ => 0)
  | n + 1 => ev1 S f (i0 + n) (evn S f i0 n)
def tp (S : St) (i0 : Int) : Nat → Int
  | 0 => 0
  | n + 1 => tp S i0 n + if 4 ≤ S 64 (i0 + n) then 1 else if S 64 (i0 + n) = 3 then 0 else -1
def lst (S : St) (r : Int) : Int := if 0 < r then S 67 (r - 1) else 0
def lgt (S : St) (r : Int) : Nat := (S 67 r - lst S r).toNat
def holdsR (S : St) (f : Int → Int) (r : Int) : Bool := decide ((evn S f (lst S r) (lgt S r)).2 0 = 1)
/-- an atom of the law -/
def atok (S : St) (i : Int) : Prop := 0 ≤ S 65 i ∧ S 65 i ≤ 9 ∧ 0 ≤ S 66 i ∧ S 66 i ≤ 9999 ∧ (S 65 i = 0 → S 64 i = 6) ∧ (1 ≤ S 65 i → S 65 i ≤ 3 → S 64 i ≤ 5) ∧ (4 ≤ S 65 i → S 64 i = 6 ∧ S 66 i = 1)
def tok (S : St) (i0 : Int) (n : Nat) : Prop := (1 ≤ S 64 (i0 + n) ∧ S 64 (i0 + n) ≤ 6) ∧ (S 64 (i0 + n) = 3 → 1 ≤ tp S i0 n) ∧ (S 64 (i0 + n) ≤ 2 → 2 ≤ tp S i0 n) ∧ (4 ≤ S 64 (i0 + n) → atok S (i0 + n))
def wfl (S : St) : Prop :=
  (0 ≤ S 63 0 ∧ S 63 0 ≤ 10) ∧ (∀ r, 0 ≤ r → r < S 63 0 → 0 ≤ lst S r ∧ lst S r ≤ S 67 r ∧ S 67 r ≤ 300) ∧ (∀ r, 0 ≤ r → r < S 63 0 → ∀ n : Nat, n < lgt S r → tok S (lst S r) n) ∧ (∀ r, 0 ≤ r → r < S 63 0 → tp S (lst S r) (lgt S r) = 1)
theorem wfl.nr {S : St} (h : wfl S) : (0 ≤ S 63 0 ∧ S 63 0 ≤ 10) := h.1
theorem wfl.ends {S : St} (h : wfl S) : (∀ r, 0 ≤ r → r < S 63 0 → 0 ≤ lst S r ∧ lst S r ≤ S 67 r ∧ S 67 r ≤ 300) := h.2.1
theorem wfl.toks {S : St} (h : wfl S) : (∀ r, 0 ≤ r → r < S 63 0 → ∀ n : Nat, n < lgt S r → tok S (lst S r) n) := h.2.2.1
theorem wfl.one {S : St} (h : wfl S) : (∀ r, 0 ≤ r → r < S 63 0 → tp S (lst S r) (lgt S r) = 1) := h.2.2.2
theorem evn_tp {S : St} {f : Int → Int} {i0 : Int} : ∀ n, (evn S f i0 n).1 = tp S i0 n := by
  intro n
  induction n with
  | zero => rfl
  | succ n ih =>
    simp only [evn, tp, ev1]
    rw [← ih]
    split
    · rfl
    · split
      · simp
      · split
        · rfl
        · rfl
/-- its numbers below the top are 0 and 1 -/
theorem evn_01 {S : St} {f : Int → Int} {i0 : Int} {N : Nat} (hw : ∀ n : Nat, n < N → tok S i0 n) : ∀ n, n ≤ N → (0 ≤ tp S i0 n ∧ tp S i0 n ≤ n) ∧ ∀ j, 0 ≤ j → j < tp S i0 n → (evn S f i0 n).2 j = 0 ∨ (evn S f i0 n).2 j = 1 := by
  intro n
  induction n with
  | zero => intro _; simp [tp]; intro j h1 h2; omega
  | succ n ih =>
    intro hn
    obtain ⟨h1, h2⟩ := ih (by omega)
    obtain ⟨h3, h4, h5, -⟩ := hw n (by omega)
    have e := evn_tp (S := S) (f := f) (i0 := i0) n
    refine ⟨?_, ?_⟩
    · simp only [tp]
      split
      · omega
      · split <;> omega
    · intro j hj
      simp only [evn, tp, ev1]
      rw [e]
      split
      · intro h6
        simp only [upi]
        split
        · unfold bi; split <;> simp
        · exact h2 j hj (by omega)
      · split
        · intro h6
          simp only [upi]
          have := h2 (tp S i0 n - 1) (by omega) (by omega)
          split
          · omega
          · exact h2 j hj (by omega)
        · intro h6
          have h7 := h2 (tp S i0 n - 1) (by omega) (by omega)
          have h8 := h2 (tp S i0 n - 2) (by omega) (by omega)
          split
          · simp only [upi]
            split
            · split <;> first | omega | assumption
            · exact h2 j hj (by omega)
          · simp only [upi]
            split
            · split <;> first | omega | assumption | simp
            · exact h2 j hj (by omega)
/-- the first rule that is so, from r on -/
def barFrom (S : St) (f : Int → Int) : Nat → Int → Int
  | 0, _ => -1
  | n + 1, r => if holdsR S f r then r else barFrom S f n (r + 1)
def barOf (S : St) (f : Int → Int) : Int := barFrom S f (S 63 0).toNat 0
def barred (S : St) (d g m o : Int) : Int := barOf S (fct S d g m o m)
def lateBar (S : St) (d g m o : Int) : Int := barOf S (fct S d g m o 9999)
theorem ev1_congr {S : St} {f g : Int → Int} {i : Int} (h : ∀ j, 0 ≤ j → j < 10 → f j = g j) (ha : 4 ≤ S 64 i → atok S i) (q : Int × (Int → Int)) : ev1 S f i q = ev1 S g i q := by
  unfold ev1
  split
  · rename_i h1
    obtain ⟨h2, h3, -⟩ := ha h1
    have h4 := h (S 65 i) h2 (by omega)
    simp only [atomv, h4]
  · rfl
theorem evn_congr {S : St} {f g : Int → Int} {i0 : Int} (h : ∀ j, 0 ≤ j → j < 10 → f j = g j) : ∀ n : Nat, (∀ k : Nat, k < n → tok S i0 k) → evn S f i0 n = evn S g i0 n := by
  intro n
  induction n with
  | zero => intro _; rfl
  | succ n ih =>
    intro ht
    simp only [evn]
    rw [ih (fun k hk => ht k (by omega)), ev1_congr h (ht n (by omega)).2.2.2]
theorem holdsR_congr {S : St} {f g : Int → Int} {r : Int} (hL : wfl S) (hr : 0 ≤ r ∧ r < S 63 0) (h : ∀ j, 0 ≤ j → j < 10 → f j = g j) : holdsR S f r = holdsR S g r := by
  unfold holdsR
  rw [evn_congr h _ (fun k hk => hL.toks r hr.1 hr.2 k hk)]
theorem barFrom_congr {S : St} {f g : Int → Int} (hL : wfl S) (h : ∀ j, 0 ≤ j → j < 10 → f j = g j) : ∀ (n : Nat) (r : Int), 0 ≤ r → r + n ≤ S 63 0 → barFrom S f n r = barFrom S g n r := by
  intro n
  induction n with
  | zero => intro r _ _; rfl
  | succ n ih =>
    intro r h1 h2
    simp only [barFrom]
    rw [holdsR_congr hL ⟨h1, by omega⟩ h, ih (r + 1) (by omega) (by omega)]
theorem barOf_congr {S : St} {f g : Int → Int} (hL : wfl S) (h : ∀ j, 0 ≤ j → j < 10 → f j = g j) : barOf S f = barOf S g := barFrom_congr hL h _ _ (by omega) (by have := hL.nr; omega)
theorem barFrom_rng {S : St} {f : Int → Int} : ∀ (n : Nat) (r : Int), 0 ≤ r → -1 ≤ barFrom S f n r ∧ barFrom S f n r < r + n ∨ barFrom S f n r = -1 := by
  intro n
  induction n with
  | zero => intro r _; right; rfl
  | succ n ih =>
    intro r h
    simp only [barFrom]
    split
    · left; omega
    · rcases ih (r + 1) (by omega) with h1 | h1
      · left; omega
      · right; exact h1
theorem barOf_rng {S : St} {f : Int → Int} (hL : wfl S) : -1 ≤ barOf S f ∧ barOf S f < 10 := by
  have := hL.nr
  unfold barOf
  rcases barFrom_rng (S := S) (f := f) (S 63 0).toNat 0 (by omega) with h | h <;> omega
