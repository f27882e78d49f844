/-! THE REFERENCE'S MEMORY STANDS FOR A STATE -/
def stpC (c b : Int) : Int := if 4 ≤ c then b else if c = 3 then 10 else if c = 2 then 11 else 12
def stpV (c b v : Int) : Int := if c < 4 then 0 else if b = 0 then v else if b ≤ 3 then (if c = 4 then -1 - v else v) else 0
def lend (S : St) : Int := if 0 < S 63 0 then S 67 (S 63 0 - 1) else 0
def RRh (S : St) (M : Mem) : Prop :=
  (pk M 142 21 = S 3 0) ∧ (pk M 142 22 = S 3 1) ∧ (pk M 142 23 = S 3 2) ∧ (∀ p, 0 ≤ p → p < S 3 0 → pk M 149 (38 * p) = S 4 p) ∧ (∀ p u, 0 ≤ p → p < S 3 0 → 0 ≤ u → u < 36 → pk M 149 (38 * p + 1 + u) = S 5 (36 * p + u))
  ∧ (∀ p, 0 ≤ p → p < S 3 0 → pk M 149 (38 * p + 37) = if S 10 p = 10000 then -1 else S 10 p) ∧ (∀ g, 0 ≤ g → g < S 3 1 → pk M 150 (9 * g) = S 11 g) ∧ (∀ g, 0 ≤ g → g < S 3 1 → pk M 150 (9 * g + 1) = S 12 g) ∧ (∀ g, 0 ≤ g → g < S 3 1 → pk M 150 (9 * g + 2) = S 13 g)
  ∧ (∀ g, 0 ≤ g → g < S 3 1 → pk M 150 (9 * g + 3) = S 27 g) ∧ (∀ g, 0 ≤ g → g < S 3 1 → pk M 150 (9 * g + 4) = S 28 g) ∧ (∀ g p, 0 ≤ g → g < S 3 1 → 0 ≤ p → p < 4 → pk M 150 (9 * g + 5 + p) = S 14 (4 * g + p))
  ∧ (∀ d, 0 ≤ d → d < S 3 2 → pk M 151 (3 * d) = S 29 d) ∧ (∀ d, 0 ≤ d → d < S 3 2 → pk M 151 (3 * d + 1) = S 30 d) ∧ (∀ d, 0 ≤ d → d < S 3 2 → pk M 151 (3 * d + 2) = S 31 d) ∧ (∀ k, 0 ≤ k → k < 4 → pk M 152 k = S 32 k)
theorem RRh.np {S : St} {M : Mem} (h : RRh S M) : (pk M 142 21 = S 3 0) := h.1
theorem RRh.ng {S : St} {M : Mem} (h : RRh S M) : (pk M 142 22 = S 3 1) := h.2.1
theorem RRh.nd {S : St} {M : Mem} (h : RRh S M) : (pk M 142 23 = S 3 2) := h.2.2.1
theorem RRh.needs {S : St} {M : Mem} (h : RRh S M) : (∀ p, 0 ≤ p → p < S 3 0 → pk M 149 (38 * p) = S 4 p) := h.2.2.2.1
theorem RRh.inc {S : St} {M : Mem} (h : RRh S M) : (∀ p u, 0 ≤ p → p < S 3 0 → 0 ≤ u → u < 36 → pk M 149 (38 * p + 1 + u) = S 5 (36 * p + u)) := h.2.2.2.2.1
theorem RRh.ill {S : St} {M : Mem} (h : RRh S M) : (∀ p, 0 ≤ p → p < S 3 0 → pk M 149 (38 * p + 37) = if S 10 p = 10000 then -1 else S 10 p) := h.2.2.2.2.2.1
theorem RRh.own {S : St} {M : Mem} (h : RRh S M) : (∀ g, 0 ≤ g → g < S 3 1 → pk M 150 (9 * g) = S 11 g) := h.2.2.2.2.2.2.1
theorem RRh.wor {S : St} {M : Mem} (h : RRh S M) : (∀ g, 0 ≤ g → g < S 3 1 → pk M 150 (9 * g + 1) = S 12 g) := h.2.2.2.2.2.2.2.1
theorem RRh.kind {S : St} {M : Mem} (h : RRh S M) : (∀ g, 0 ≤ g → g < S 3 1 → pk M 150 (9 * g + 2) = S 13 g) := h.2.2.2.2.2.2.2.2.1
theorem RRh.said {S : St} {M : Mem} (h : RRh S M) : (∀ g, 0 ≤ g → g < S 3 1 → pk M 150 (9 * g + 3) = S 27 g) := h.2.2.2.2.2.2.2.2.2.1
theorem RRh.prf {S : St} {M : Mem} (h : RRh S M) : (∀ g, 0 ≤ g → g < S 3 1 → pk M 150 (9 * g + 4) = S 28 g) := h.2.2.2.2.2.2.2.2.2.2.1
theorem RRh.tw {S : St} {M : Mem} (h : RRh S M) : (∀ g p, 0 ≤ g → g < S 3 1 → 0 ≤ p → p < 4 → pk M 150 (9 * g + 5 + p) = S 14 (4 * g + p)) := h.2.2.2.2.2.2.2.2.2.2.2.1
theorem RRh.dbt {S : St} {M : Mem} (h : RRh S M) : (∀ d, 0 ≤ d → d < S 3 2 → pk M 151 (3 * d) = S 29 d) := h.2.2.2.2.2.2.2.2.2.2.2.2.1
theorem RRh.amt {S : St} {M : Mem} (h : RRh S M) : (∀ d, 0 ≤ d → d < S 3 2 → pk M 151 (3 * d + 1) = S 30 d) := h.2.2.2.2.2.2.2.2.2.2.2.2.2.1
theorem RRh.writ {S : St} {M : Mem} (h : RRh S M) : (∀ d, 0 ≤ d → d < S 3 2 → pk M 151 (3 * d + 2) = S 31 d) := h.2.2.2.2.2.2.2.2.2.2.2.2.2.2.1
theorem RRh.fee {S : St} {M : Mem} (h : RRh S M) : (∀ k, 0 ≤ k → k < 4 → pk M 152 k = S 32 k) := h.2.2.2.2.2.2.2.2.2.2.2.2.2.2.2
def RRl (S : St) (M : Mem) : Prop :=
  (pk M 142 31 = S 63 0) ∧ (pk M 157 0 = 0) ∧ (∀ r, 0 ≤ r → r < S 63 0 → pk M 157 (r + 1) = S 67 r) ∧ (∀ i, 0 ≤ i → i < lend S → pk M 153 i = stpC (S 64 i) (S 65 i)) ∧ (∀ i, 0 ≤ i → i < lend S → pk M 154 i = stpV (S 64 i) (S 65 i) (S 66 i))
theorem RRl.nr {S : St} {M : Mem} (h : RRl S M) : (pk M 142 31 = S 63 0) := h.1
theorem RRl.e0 {S : St} {M : Mem} (h : RRl S M) : (pk M 157 0 = 0) := h.2.1
theorem RRl.ends {S : St} {M : Mem} (h : RRl S M) : (∀ r, 0 ≤ r → r < S 63 0 → pk M 157 (r + 1) = S 67 r) := h.2.2.1
theorem RRl.steps {S : St} {M : Mem} (h : RRl S M) : (∀ i, 0 ≤ i → i < lend S → pk M 153 i = stpC (S 64 i) (S 65 i)) := h.2.2.2.1
theorem RRl.vals {S : St} {M : Mem} (h : RRl S M) : (∀ i, 0 ≤ i → i < lend S → pk M 154 i = stpV (S 64 i) (S 65 i) (S 66 i)) := h.2.2.2.2
def RRc (S : St) (M : Mem) : Prop :=
  (pk M 142 49 = S 78 0) ∧ (∀ i, 0 ≤ i → i < S 78 0 → pk M 161 (4 * i) = S 79 i) ∧ (∀ i, 0 ≤ i → i < S 78 0 → pk M 161 (4 * i + 1) = S 80 i) ∧ (∀ i, 0 ≤ i → i < S 78 0 → pk M 161 (4 * i + 2) = S 81 i) ∧ (∀ i, 0 ≤ i → i < S 78 0 → pk M 161 (4 * i + 3) = S 82 i)
  ∧ (∀ p, 0 ≤ p → p < 4 → pk M 162 p = S 86 p) ∧ (∀ g, 0 ≤ g → g < 12 → pk M 163 g = S 83 g) ∧ (∀ g, 0 ≤ g → g < 12 → pk M 164 g = S 84 g) ∧ (∀ d, 0 ≤ d → d < 6 → pk M 165 d = S 85 d)
  ∧ (pk M 142 50 = S 78 9) ∧ (∀ k, 0 ≤ k → k < S 78 9 → pk M 166 (3 * k) = S 87 k) ∧ (∀ k, 0 ≤ k → k < S 78 9 → pk M 166 (3 * k + 1) = S 88 k) ∧ (∀ k, 0 ≤ k → k < S 78 9 → pk M 166 (3 * k + 2) = S 89 k)
theorem RRc.acts {S : St} {M : Mem} (h : RRc S M) : (pk M 142 49 = S 78 0) := h.1
theorem RRc.ad {S : St} {M : Mem} (h : RRc S M) : (∀ i, 0 ≤ i → i < S 78 0 → pk M 161 (4 * i) = S 79 i) := h.2.1
theorem RRc.ag {S : St} {M : Mem} (h : RRc S M) : (∀ i, 0 ≤ i → i < S 78 0 → pk M 161 (4 * i + 1) = S 80 i) := h.2.2.1
theorem RRc.am {S : St} {M : Mem} (h : RRc S M) : (∀ i, 0 ≤ i → i < S 78 0 → pk M 161 (4 * i + 2) = S 81 i) := h.2.2.2.1
theorem RRc.ao {S : St} {M : Mem} (h : RRc S M) : (∀ i, 0 ≤ i → i < S 78 0 → pk M 161 (4 * i + 3) = S 82 i) := h.2.2.2.2.1
theorem RRc.stage {S : St} {M : Mem} (h : RRc S M) : (∀ p, 0 ≤ p → p < 4 → pk M 162 p = S 86 p) := h.2.2.2.2.2.1
theorem RRc.sold {S : St} {M : Mem} (h : RRc S M) : (∀ g, 0 ≤ g → g < 12 → pk M 163 g = S 83 g) := h.2.2.2.2.2.2.1
theorem RRc.given {S : St} {M : Mem} (h : RRc S M) : (∀ g, 0 ≤ g → g < 12 → pk M 164 g = S 84 g) := h.2.2.2.2.2.2.2.1
theorem RRc.aside {S : St} {M : Mem} (h : RRc S M) : (∀ d, 0 ≤ d → d < 6 → pk M 165 d = S 85 d) := h.2.2.2.2.2.2.2.2.1
theorem RRc.proms {S : St} {M : Mem} (h : RRc S M) : (pk M 142 50 = S 78 9) := h.2.2.2.2.2.2.2.2.2.1
theorem RRc.pd {S : St} {M : Mem} (h : RRc S M) : (∀ k, 0 ≤ k → k < S 78 9 → pk M 166 (3 * k) = S 87 k) := h.2.2.2.2.2.2.2.2.2.2.1
theorem RRc.pm {S : St} {M : Mem} (h : RRc S M) : (∀ k, 0 ≤ k → k < S 78 9 → pk M 166 (3 * k + 1) = S 88 k) := h.2.2.2.2.2.2.2.2.2.2.2.1
theorem RRc.pf {S : St} {M : Mem} (h : RRc S M) : (∀ k, 0 ≤ k → k < S 78 9 → pk M 166 (3 * k + 2) = S 89 k) := h.2.2.2.2.2.2.2.2.2.2.2.2
/-- an image, in the cells b on and in the reference's row from q on -/
def RRi (S : St) (M : Mem) (b : Nat) (q : Int) : Prop :=
  (pk M 174 (q + 154) = S b 0) ∧ (∀ i, 0 ≤ i → i < S b 0 → pk M 174 (q + 4 * i) = S (b + 1) i) ∧ (∀ i, 0 ≤ i → i < S b 0 → pk M 174 (q + (4 * i + 1)) = S (b + 2) i) ∧ (∀ i, 0 ≤ i → i < S b 0 → pk M 174 (q + (4 * i + 2)) = S (b + 3) i) ∧ (∀ i, 0 ≤ i → i < S b 0 → pk M 174 (q + (4 * i + 3)) = S (b + 4) i)
  ∧ (∀ p, 0 ≤ p → p < 4 → pk M 174 (q + 96 + p) = S (b + 8) p) ∧ (∀ g, 0 ≤ g → g < 12 → pk M 174 (q + 100 + g) = S (b + 5) g) ∧ (∀ g, 0 ≤ g → g < 12 → pk M 174 (q + 112 + g) = S (b + 6) g) ∧ (∀ d, 0 ≤ d → d < 6 → pk M 174 (q + 124 + d) = S (b + 7) d)
  ∧ (pk M 174 (q + 155) = S b 9) ∧ (∀ k, 0 ≤ k → k < S b 9 → pk M 174 (q + 130 + 3 * k) = S (b + 9) k) ∧ (∀ k, 0 ≤ k → k < S b 9 → pk M 174 (q + 130 + (3 * k + 1)) = S (b + 10) k) ∧ (∀ k, 0 ≤ k → k < S b 9 → pk M 174 (q + 130 + (3 * k + 2)) = S (b + 11) k)
def RR (S : St) (M : Mem) : Prop :=
  (pk M 142 2 = S 0 1) ∧ (∀ i, 0 ≤ i → i < S 0 1 → pk M 144 i = S 1 i) ∧ (pk M 142 8 = S 2 5) ∧ RRh S M ∧ RRl S M ∧ RRc S M ∧ (∀ k, 0 ≤ k → k < 3 → pk M 143 k = S 105 k) ∧ (pk M 142 60 = S 0 11) ∧ (∀ j : Nat, (j : Int) < S 0 11 → RRi S M (106 + 12 * j) (156 * j))
theorem RR.taped {S : St} {M : Mem} (h : RR S M) : (pk M 142 2 = S 0 1) := h.1
theorem RR.tape {S : St} {M : Mem} (h : RR S M) : (∀ i, 0 ≤ i → i < S 0 1 → pk M 144 i = S 1 i) := h.2.1
theorem RR.fau {S : St} {M : Mem} (h : RR S M) : (pk M 142 8 = S 2 5) := h.2.2.1
theorem RR.h {S : St} {M : Mem} (h : RR S M) : RRh S M := h.2.2.2.1
theorem RR.l {S : St} {M : Mem} (h : RR S M) : RRl S M := h.2.2.2.2.1
theorem RR.c {S : St} {M : Mem} (h : RR S M) : RRc S M := h.2.2.2.2.2.1
theorem RR.refu {S : St} {M : Mem} (h : RR S M) : (∀ k, 0 ≤ k → k < 3 → pk M 143 k = S 105 k) := h.2.2.2.2.2.2.1
theorem RR.imgs {S : St} {M : Mem} (h : RR S M) : (pk M 142 60 = S 0 11) := h.2.2.2.2.2.2.2.1
theorem RR.img {S : St} {M : Mem} (h : RR S M) : (∀ j : Nat, (j : Int) < S 0 11 → RRi S M (106 + 12 * j) (156 * j)) := h.2.2.2.2.2.2.2.2
/-- the reference's cells that stand for the state: of its object these fields, and these rows -/
def rst (a : Nat) (i : Int) : Bool := decide (a = 142 ∧ (i = 2 ∨ i = 8 ∨ i = 21 ∨ i = 22 ∨ i = 23 ∨ i = 31 ∨ i = 49 ∨ i = 50 ∨ i = 60)) || decide (a = 143) || decide (a = 144) || (decide (149 ≤ a) && decide (a ≤ 154)) || decide (a = 157) || (decide (161 ≤ a) && decide (a ≤ 166)) || decide (a = 174)
def rstH (a : Nat) (i : Int) : Bool := decide (a = 142 ∧ (i = 21 ∨ i = 22 ∨ i = 23)) || (decide (149 ≤ a) && decide (a ≤ 152))
def rstL (a : Nat) (i : Int) : Bool := decide (a = 142 ∧ i = 31) || decide (a = 153) || decide (a = 154) || decide (a = 157)
def rstC (a : Nat) (i : Int) : Bool := decide (a = 142 ∧ (i = 49 ∨ i = 50)) || (decide (161 ≤ a) && decide (a ≤ 166))
theorem RRh.sm {S : St} {M M' : Mem} (h4 : RRh S M) (hs : ∀ a i, rstH a i = true → pk M' a i = pk M a i) : RRh S M' := by
  have r : ∀ a i, rstH a i = true → ∀ v, pk M a i = v → pk M' a i = v := fun a i ha v hv => by rw [hs a i ha]; exact hv
  obtain ⟨g1, g2, g3, g4, g5, g6, g7, g8, g9, g10, g11, g12, g13, g14, g15, g16⟩ := h4
  exact ⟨r _ _ rfl _ g1, r _ _ rfl _ g2, r _ _ rfl _ g3, fun p a b => r _ _ rfl _ (g4 p a b), fun p u a b c d => r _ _ rfl _ (g5 p u a b c d), fun p a b => r _ _ rfl _ (g6 p a b), fun p a b => r _ _ rfl _ (g7 p a b), fun p a b => r _ _ rfl _ (g8 p a b), fun p a b => r _ _ rfl _ (g9 p a b), fun p a b => r _ _ rfl _ (g10 p a b), fun p a b => r _ _ rfl _ (g11 p a b), fun g p a b c d => r _ _ rfl _ (g12 g p a b c d), fun p a b => r _ _ rfl _ (g13 p a b), fun p a b => r _ _ rfl _ (g14 p a b), fun p a b => r _ _ rfl _ (g15 p a b), fun p a b => r _ _ rfl _ (g16 p a b)⟩
theorem RRl.sm {S : St} {M M' : Mem} (h5 : RRl S M) (hs : ∀ a i, rstL a i = true → pk M' a i = pk M a i) : RRl S M' := by
  have r : ∀ a i, rstL a i = true → ∀ v, pk M a i = v → pk M' a i = v := fun a i ha v hv => by rw [hs a i ha]; exact hv
  obtain ⟨g1, g2, g3, g4, g5⟩ := h5
  exact ⟨r _ _ rfl _ g1, r _ _ rfl _ g2, fun p a b => r _ _ rfl _ (g3 p a b), fun p a b => r _ _ rfl _ (g4 p a b), fun p a b => r _ _ rfl _ (g5 p a b)⟩
theorem RRc.sm {S : St} {M M' : Mem} (h6 : RRc S M) (hs : ∀ a i, rstC a i = true → pk M' a i = pk M a i) : RRc S M' := by
  have r : ∀ a i, rstC a i = true → ∀ v, pk M a i = v → pk M' a i = v := fun a i ha v hv => by rw [hs a i ha]; exact hv
  obtain ⟨g1, g2, g3, g4, g5, g6, g7, g8, g9, g10, g11, g12, g13⟩ := h6
  exact ⟨r _ _ rfl _ g1, fun p a b => r _ _ rfl _ (g2 p a b), fun p a b => r _ _ rfl _ (g3 p a b), fun p a b => r _ _ rfl _ (g4 p a b), fun p a b => r _ _ rfl _ (g5 p a b), fun p a b => r _ _ rfl _ (g6 p a b), fun p a b => r _ _ rfl _ (g7 p a b), fun p a b => r _ _ rfl _ (g8 p a b), fun p a b => r _ _ rfl _ (g9 p a b), r _ _ rfl _ g10, fun p a b => r _ _ rfl _ (g11 p a b), fun p a b => r _ _ rfl _ (g12 p a b), fun p a b => r _ _ rfl _ (g13 p a b)⟩
theorem RRi.sm {S : St} {M M' : Mem} {b : Nat} {q : Int} (h6 : RRi S M b q) (hs : ∀ i, pk M' 174 i = pk M 174 i) : RRi S M' b q := by
  have r : ∀ i, ∀ v, pk M 174 i = v → pk M' 174 i = v := fun i v hv => by rw [hs i]; exact hv
  obtain ⟨g1, g2, g3, g4, g5, g6, g7, g8, g9, g10, g11, g12, g13⟩ := h6
  exact ⟨r _ _ g1, fun p a b => r _ _ (g2 p a b), fun p a b => r _ _ (g3 p a b), fun p a b => r _ _ (g4 p a b), fun p a b => r _ _ (g5 p a b), fun p a b => r _ _ (g6 p a b), fun p a b => r _ _ (g7 p a b), fun p a b => r _ _ (g8 p a b), fun p a b => r _ _ (g9 p a b), r _ _ g10, fun p a b => r _ _ (g11 p a b), fun p a b => r _ _ (g12 p a b), fun p a b => r _ _ (g13 p a b)⟩
theorem rstH_r {a : Nat} {i : Int} (h : rstH a i = true) : rst a i = true := by
  simp only [rstH, rst, Bool.or_eq_true, Bool.and_eq_true, decide_eq_true_eq] at *
  omega
theorem rstL_r {a : Nat} {i : Int} (h : rstL a i = true) : rst a i = true := by
  simp only [rstL, rst, Bool.or_eq_true, Bool.and_eq_true, decide_eq_true_eq] at *
  omega
theorem rstC_r {a : Nat} {i : Int} (h : rstC a i = true) : rst a i = true := by
  simp only [rstC, rst, Bool.or_eq_true, Bool.and_eq_true, decide_eq_true_eq] at *
  omega
theorem RR.sm {S : St} {M M' : Mem} (h : RR S M) (hs : ∀ a i, rst a i = true → pk M' a i = pk M a i) : RR S M' := by
  obtain ⟨h1, h2, h3, h4, h5, h6, h7, h8, h9⟩ := h
  have r : ∀ a i, rst a i = true → ∀ v, pk M a i = v → pk M' a i = v := fun a i ha v hv => by rw [hs a i ha]; exact hv
  exact ⟨r _ _ rfl _ h1, fun i a b => r _ _ rfl _ (h2 i a b), r _ _ rfl _ h3, h4.sm (fun a i h => hs a i (rstH_r h)), h5.sm (fun a i h => hs a i (rstL_r h)), h6.sm (fun a i h => hs a i (rstC_r h)), fun k a b => r _ _ rfl _ (h7 k a b), r _ _ rfl _ h8, fun j hj => (h9 j hj).sm (fun i => hs _ _ rfl)⟩
theorem RRh.st {S S' : St} {M : Mem} (h : RRh S M) (hS : ∀ a, 3 ≤ a → a < 33 → S' a = S a) : RRh S' M := by
  unfold RRh at *
  simp only [hS 3 (by decide) (by decide), hS 4 (by decide) (by decide), hS 5 (by decide) (by decide), hS 10 (by decide) (by decide), hS 11 (by decide) (by decide), hS 12 (by decide) (by decide), hS 13 (by decide) (by decide), hS 14 (by decide) (by decide), hS 27 (by decide) (by decide), hS 28 (by decide) (by decide), hS 29 (by decide) (by decide), hS 30 (by decide) (by decide), hS 31 (by decide) (by decide), hS 32 (by decide) (by decide)]
  exact h
theorem RRl.st {S S' : St} {M : Mem} (h : RRl S M) (hS : ∀ a, 63 ≤ a → a < 68 → S' a = S a) : RRl S' M := by
  unfold RRl lend at *
  simp only [hS 63 (by decide) (by decide), hS 64 (by decide) (by decide), hS 65 (by decide) (by decide), hS 66 (by decide) (by decide), hS 67 (by decide) (by decide)]
  exact h
theorem RRi.st {S S' : St} {M : Mem} {b : Nat} {q : Int} (h : RRi S M b q) (hS : ∀ k, k < 12 → S' (b + k) = S (b + k)) : RRi S' M b q := by
  have h0 : S' b = S b := hS 0 (by decide)
  unfold RRi at *
  simp only [h0, hS 1 (by decide), hS 2 (by decide), hS 3 (by decide), hS 4 (by decide), hS 5 (by decide), hS 6 (by decide), hS 7 (by decide), hS 8 (by decide), hS 9 (by decide), hS 10 (by decide), hS 11 (by decide)]
  exact h
theorem RR.upC {S S' : St} {M M' : Mem} (h : RR S M) (hS : ∀ a, (a < 78 ∨ 90 ≤ a) → S' a = S a) (hs : ∀ a i, rst a i = true → rstC a i = false → pk M' a i = pk M a i) (hc : RRc S' M') : RR S' M' := by
  obtain ⟨h1, h2, h3, h4, h5, h6, h7, h8, h9⟩ := h
  refine ⟨?_, ?_, ?_, (h4.sm (fun a i h => hs a i (rstH_r h) ?_)).st (fun a ha hb => hS a (by omega)), (h5.sm (fun a i h => hs a i (rstL_r h) ?_)).st (fun a ha hb => hS a (by omega)), hc, ?_, ?_, fun j hj => ((h9 j (by rw [hS 0 (by decide)] at hj; exact hj)).sm (fun i => hs _ _ rfl rfl)).st (fun k hk => hS _ (by omega))⟩
  · rw [hs _ _ rfl rfl, hS 0 (by decide)]; exact h1
  · intro i a b
    rw [hS 0 (by decide)] at b
    rw [hs _ _ rfl rfl, hS 1 (by decide)]; exact h2 i a b
  · rw [hs _ _ rfl rfl, hS 2 (by decide)]; exact h3
  · simp only [rstH, rstC, Bool.or_eq_true, Bool.and_eq_true, decide_eq_true_eq, Bool.or_eq_false_iff, Bool.and_eq_false_iff, decide_eq_false_iff_not] at *
    omega
  · simp only [rstL, rstC, Bool.or_eq_true, Bool.and_eq_true, decide_eq_true_eq, Bool.or_eq_false_iff, Bool.and_eq_false_iff, decide_eq_false_iff_not] at *
    omega
  · intro k a b
    rw [hs _ _ rfl rfl, hS 105 (by decide)]; exact h7 k a b
  · rw [hs _ _ rfl rfl, hS 0 (by decide)]; exact h8
theorem RR.pw {S : St} {M : Mem} {a : Nat} {i x : Int} (h : RR S M) (ha : rst a i = false) : RR S (po M a i x) := h.sm (fun b j hb => by
  rw [pk_po, if_neg]
  rintro ⟨rfl, rfl⟩
  rw [ha] at hb
  cases hb)
theorem RR.fc {S : St} {M M' : Mem} (h : RR S M) (hf : FC M M') : RR S M' := h.sm (fun a i ha => by
  unfold pk
  rw [hf a (by simp [rst] at ha; omega) (by simp [rst] at ha; omega)])
theorem RC.fR {S : St} {M M' : Mem} (h : RC S M) (hf : FR M M') : RC S M' := by
  refine ⟨fun a ha i => ?_, ?_⟩
  · unfold pk
    rw [hf a (by simp [cst] at ha; omega)]
    exact h.1 a ha i
  · unfold pk
    rw [hf 2 (by decide)]
    exact h.2
theorem FR.rfl {M : Mem} : FR M M := fun _ _ => Eq.refl _
theorem FR.pw {M M' : Mem} {a : Nat} {i x : Int} (h : FR M M') (ha : 142 ≤ a ∧ a < 175) : FR M (po M' a i x) := by
  intro b hb
  funext j
  rw [po_ne (by omega), h b hb]
theorem FR.trans {M M' M'' : Mem} (h : FR M M') (h2 : FR M' M'') : FR M M'' := fun a ha => by rw [h2 a ha, h a ha]
/-- what is scratch in the reference's memory -/
def rsx (l : List Nat) (M M' : Mem) : Prop := fx l M M'
theorem RR.fxx {S : St} {M M' : Mem} {l : List Nat} (h : RR S M) (hf : fx l M M') (hl : l.all (fun a => decide (a ≠ 142) && !rst a 0) = true) : RR S M' := h.sm (fun a i ha => by
  unfold pk
  rw [hf a]
  intro h1
  have h2 := List.all_eq_true.mp hl a h1
  simp only [Bool.and_eq_true, decide_eq_true_eq, Bool.not_eq_true'] at h2
  have h3 : rst a i = rst a 0 := by simp [rst, h2.1]
  rw [h3, h2.2] at ha
  cases ha)
theorem FR.fxx {M M' : Mem} {l : List Nat} (hf : fx l M M') (hl : l.all (fun a => decide (142 ≤ a) && decide (a < 175)) = true) : FR M M' := fun a ha => hf a (fun h1 => by
  have h2 := List.all_eq_true.mp hl a h1
  simp at h2
  omega)
/-- a call of the reference: c is what it says of its refusal -/
def PR (X : Nat × (Nat → Int32)) (s : Bool × Bool) (dh dl t : Nat) (M : Mem) (Q : MOut → MHp → Prop) (c : Int → Int) (r : R3) : Prop := ∀ v M', RR r.2.2 M' → FR M M' → pk M' 142 0 = c r.1 → (r.1 = 0 → v = r.2.1) → Q (rI v) (mkh X s dh dl t M')
theorem PR.ok {X : Nat × (Nat → Int32)} {s : Bool × Bool} {dh dl t : Nat} {M M' : Mem} {Q : MOut → MHp → Prop} {c : Int → Int} {r : R3} {v : Int} {S' : St} (h : PR X s dh dl t M Q c r) (e : r = (0, v, S')) (hR : RR S' M') (hF : FR M M') (ht : pk M' 142 0 = c 0) : Q (.inl (some (vI v))) (mkh X s dh dl t M') := by
  subst e
  exact h v M' hR hF ht (fun _ => rfl)
theorem PR.no {X : Nat × (Nat → Int32)} {s : Bool × Bool} {dh dl t : Nat} {M M' : Mem} {Q : MOut → MHp → Prop} {c : Int → Int} {r : R3} (k : Int) {v : Int} {S' : St} (h : PR X s dh dl t M Q c r) (hk : ¬ k = 0) (e : r = (k, 0, S')) (hR : RR S' M') (hF : FR M M') (ht : pk M' 142 0 = c k) : Q (.inl (some (vI v))) (mkh X s dh dl t M') := by
  subst e
  exact h v M' hR hF ht (fun h => absurd h hk)
section R60
variable {Q : MOut → MHp → Prop} {X : Nat × (Nat → Int32)} {s : Bool × Bool} {dh dl t : Nat} {M : Mem} {S : St}
theorem R118 : CL 118 [.ref 142] (mkh X s dh dl t M) Q ↔ Q (rI (pk M 142 0)) (mkh X s dh dl t M) := by
  simp only [↓x_al_0, ↓gi_142_0, ↓x_ir, ↓n_118, ↓s_118_0, ↓pv_i, ↓pv_r, ↓pv_0, ↓pv_l, wz_pk, wz_ti, wz_wz, vI_wz, wz_id, wz_0, List.length_cons, List.length_nil, ↓reduceIte, true_and, and_true, Int.reduceLE, Int.reduceLT, Int.reduceEq, not_true_eq_false, not_false_eq_true, false_or, or_false, true_or, or_true, ite_not, Int.reduceNeg, Int32.reduceToInt, Nat.reduceAdd, Nat.reduceLeDiff, Nat.reduceLT, Nat.reduceEqDiff, Int.reduceAdd, Int.reduceSub, Int.reduceMul, Nat.zero_le, pk_po_ne, pk_po_eq, pk_po_ix, rI, ne_eq]
theorem R120 {v a b : Int} {h : MHp} : CL 120 [vI v, vI a, vI b] h Q ↔ Q (rI (bi (decide (wz a ≤ wz v ∧ wz v ≤ wz b)))) h := by
  simp only [↓x_il_0, ↓x_il_1, ↓x_lt, ↓x_il_2, ↓x_gt, ↓x_c, ↓x_go, ↓x_irz, ↓n_120, ↓s_120_0, ↓s_120_14, ↓s_120_15, ↓pv_i, ↓pv_r, ↓pv_0, ↓pv_l, wz_pk, wz_ti, wz_wz, vI_wz, wz_id, wz_0, List.length_cons, List.length_nil, ↓reduceIte, true_and, and_true, Int.reduceLE, Int.reduceLT, Int.reduceEq, not_true_eq_false, not_false_eq_true, false_or, or_false, true_or, or_true, ite_not, Int.reduceNeg, Int32.reduceToInt, Nat.reduceAdd, Nat.reduceLeDiff, Nat.reduceLT, Nat.reduceEqDiff, Int.reduceAdd, Int.reduceSub, Int.reduceMul, Nat.zero_le, pk_po_ne, pk_po_eq, pk_po_ix, rI, ne_eq]
  grind [bi]
/-- a refusal is told and counted -/
def rfM (M : Mem) (c k : Int) : Mem := po (po M 142 0 c) 143 k (pk M 143 k + 1)
theorem R119 {b : Bool} {c k : Int} (h0 : pk M 142 0 = 0) (hc : wz c = c) (hc0 : ¬ c = 0) (hk : 0 ≤ k ∧ k < 3) : CL 119 [.ref 142, vI (bi b), vI c, vI k] (mkh X s dh dl t M) Q ↔ if b = true then Q (rI 1) (mkh X s dh dl t M) else Q (rI 0) (mkh X s dh dl t (rfM M c k)) := by
  have k3 : k < 3 := hk.2
  have k0 : 0 ≤ k := hk.1
  cases b
  · simp (disch := omega) only [↓x_il_1, ↓x_ne0, ↓x_al_0, ↓gi_142_0, ↓x_il_2, ↓pi_142_0, ↓gr_142_1, ↓x_il_3, ↓x_dup2, ↓x_c, ↓x_iadd, ↓x_go, ↓x_irz, ↓ld_143, ↓st_143, ↓n_119, ↓s_119_0, ↓s_119_26, ↓s_119_37, ↓s_119_38, ↓pv_i, ↓pv_r, ↓pv_0, ↓pv_l, wz_pk, wz_ti, wz_wz, vI_wz, wz_id, wz_0, List.length_cons, List.length_nil, ↓reduceIte, true_and, and_true, Int.reduceLE, Int.reduceLT, Int.reduceEq, not_true_eq_false, not_false_eq_true, false_or, or_false, true_or, or_true, ite_not, Int.reduceNeg, Int32.reduceToInt, Nat.reduceAdd, Nat.reduceLeDiff, Nat.reduceLT, Nat.reduceEqDiff, Int.reduceAdd, Int.reduceSub, Int.reduceMul, Nat.zero_le, pk_po_ne, pk_po_eq, pk_po_ix, rI, ne_eq, bi, Bool.false_eq_true, if_false, if_true, h0, hc, hc0, k3, k0]
    rfl
  · simp (disch := omega) only [↓x_il_1, ↓x_ne0, ↓x_al_0, ↓gi_142_0, ↓x_il_2, ↓pi_142_0, ↓gr_142_1, ↓x_il_3, ↓x_dup2, ↓x_c, ↓x_iadd, ↓x_go, ↓x_irz, ↓ld_143, ↓st_143, ↓n_119, ↓s_119_0, ↓s_119_26, ↓s_119_37, ↓s_119_38, ↓pv_i, ↓pv_r, ↓pv_0, ↓pv_l, wz_pk, wz_ti, wz_wz, vI_wz, wz_id, wz_0, List.length_cons, List.length_nil, ↓reduceIte, true_and, and_true, Int.reduceLE, Int.reduceLT, Int.reduceEq, not_true_eq_false, not_false_eq_true, false_or, or_false, true_or, or_true, ite_not, Int.reduceNeg, Int32.reduceToInt, Nat.reduceAdd, Nat.reduceLeDiff, Nat.reduceLT, Nat.reduceEqDiff, Int.reduceAdd, Int.reduceSub, Int.reduceMul, Nat.zero_le, pk_po_ne, pk_po_eq, pk_po_ix, rI, ne_eq, bi, if_true, h0]
theorem R119v {x : Int} {c k : Int} (h0 : pk M 142 0 = 0) (hc : wz c = c) (hc0 : ¬ c = 0) (hk : 0 ≤ k ∧ k < 3) : CL 119 [.ref 142, vI x, vI c, vI k] (mkh X s dh dl t M) Q ↔ if wz x = 0 then Q (rI 0) (mkh X s dh dl t (rfM M c k)) else Q (rI 1) (mkh X s dh dl t M) := by
  have k3 : k < 3 := hk.2
  have k0 : 0 ≤ k := hk.1
  simp (disch := omega) only [↓x_il_1, ↓x_ne0, ↓x_al_0, ↓gi_142_0, ↓x_il_2, ↓pi_142_0, ↓gr_142_1, ↓x_il_3, ↓x_dup2, ↓x_c, ↓x_iadd, ↓x_go, ↓x_irz, ↓ld_143, ↓st_143, ↓n_119, ↓s_119_0, ↓s_119_26, ↓s_119_37, ↓s_119_38, ↓pv_i, ↓pv_r, ↓pv_0, ↓pv_l, wz_pk, wz_ti, wz_wz, vI_wz, wz_id, wz_0, List.length_cons, List.length_nil, ↓reduceIte, true_and, and_true, Int.reduceLE, Int.reduceLT, Int.reduceEq, not_true_eq_false, not_false_eq_true, false_or, or_false, true_or, or_true, ite_not, Int.reduceNeg, Int32.reduceToInt, Nat.reduceAdd, Nat.reduceLeDiff, Nat.reduceLT, Nat.reduceEqDiff, Int.reduceAdd, Int.reduceSub, Int.reduceMul, Nat.zero_le, pk_po_ne, pk_po_eq, pk_po_ix, rI, ne_eq, h0, hc, hc0, k3, k0, if_true, if_false]
  rfl
theorem RR.ref {k : Int} {c : Int} (h : RR S M) (hk : 0 ≤ k ∧ k < 3) : RR (rf S k) (rfM M c k) := by
  have h1 := h.refu k hk.1 hk.2
  have hs : ∀ a i, rst a i = true → a ≠ 143 → pk (rfM M c k) a i = pk M a i := fun a i ha hb => by
    unfold rfM
    rw [pk_po_ne hb, pk_po, if_neg]
    rintro ⟨rfl, rfl⟩
    cases ha
  have hH : RRh S (rfM M c k) := h.h.sm (fun a i ha => hs a i (rstH_r ha) (by rintro rfl; cases ha))
  have hL : RRl S (rfM M c k) := h.l.sm (fun a i ha => hs a i (rstL_r ha) (by rintro rfl; cases ha))
  have hC : RRc S (rfM M c k) := h.c.sm (fun a i ha => hs a i (rstC_r ha) (by rintro rfl; cases ha))
  refine ⟨by rw [hs _ _ rfl (by decide)]; exact h.1, fun i a b => by rw [hs _ _ rfl (by decide)]; exact h.2.1 i a b, by rw [hs _ _ rfl (by decide)]; exact h.2.2.1, hH, hL, hC, ?_, by rw [hs _ _ rfl (by decide)]; exact h.imgs, ?_⟩
  · intro j a b
    unfold rfM rf su
    rw [pk_po]
    by_cases hj : j = k
    · rw [if_pos ⟨rfl, hj⟩, if_pos ⟨rfl, hj⟩, h1]
    · rw [if_neg (fun h => hj h.2), if_neg (fun h => hj h.2), pk_po_ne (by decide)]
      exact h.refu j a b
  · intro j hj
    have h2 := (h.img j hj).sm (M' := rfM M c k) (fun i => hs _ _ rfl (by decide))
    have e : ∀ n : Nat, 105 < n → rf S k n = S n := fun n hn => by
      funext i
      unfold rf su
      rw [if_neg (by omega)]
    unfold RRi at h2 ⊢
    simp only [e _ (show 105 < 106 + 12 * j by omega), e _ (show 105 < 106 + 12 * j + 1 by omega), e _ (show 105 < 106 + 12 * j + 2 by omega), e _ (show 105 < 106 + 12 * j + 3 by omega), e _ (show 105 < 106 + 12 * j + 4 by omega), e _ (show 105 < 106 + 12 * j + 5 by omega), e _ (show 105 < 106 + 12 * j + 6 by omega), e _ (show 105 < 106 + 12 * j + 7 by omega), e _ (show 105 < 106 + 12 * j + 8 by omega), e _ (show 105 < 106 + 12 * j + 9 by omega), e _ (show 105 < 106 + 12 * j + 10 by omega), e _ (show 105 < 106 + 12 * j + 11 by omega)]
    exact h2
end R60
