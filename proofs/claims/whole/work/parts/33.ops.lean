/-! WHAT EACH CALL DOES TO A STATE: how it is refused (0 not, 1 none such, 2 unfit, 3 untimely), what it answers, the state behind it -/
abbrev R3 : Type := Int × Int × St
def rf (S : St) (k : Int) : St := su S 105 k (wz (S 105 k + 1))
def inv (S : St) : Prop :=
  hou S ∧ wfl S ∧ crs S 78 ∧ (0 ≤ S 0 1 ∧ S 0 1 ≤ 600) ∧ (∀ i, 0 ≤ i → i < S 0 1 → 0 ≤ S 1 i ∧ S 1 i ≤ 255) ∧ (0 ≤ S 0 11 ∧ S 0 11 ≤ 3) ∧ (∀ j : Nat, (j : Int) < S 0 11 → crs S (106 + 12 * j)) ∧ (-1 ≤ S 2 5 ∧ S 2 5 ≤ 600)
theorem inv.h {S : St} (h : inv S) : hou S := h.1
theorem inv.l {S : St} (h : inv S) : wfl S := h.2.1
theorem inv.c {S : St} (h : inv S) : crs S 78 := h.2.2.1
theorem inv.tape {S : St} (h : inv S) : (0 ≤ S 0 1 ∧ S 0 1 ≤ 600) := h.2.2.2.1
theorem inv.bytes {S : St} (h : inv S) : (∀ i, 0 ≤ i → i < S 0 1 → 0 ≤ S 1 i ∧ S 1 i ≤ 255) := h.2.2.2.2.1
theorem inv.imgs {S : St} (h : inv S) : (0 ≤ S 0 11 ∧ S 0 11 ≤ 3) := h.2.2.2.2.2.1
theorem inv.img {S : St} (h : inv S) : (∀ j : Nat, (j : Int) < S 0 11 → crs S (106 + 12 * j)) := h.2.2.2.2.2.2.1
theorem inv.place {S : St} (h : inv S) : (-1 ≤ S 2 5 ∧ S 2 5 ≤ 600) := h.2.2.2.2.2.2.2
/-- what a call of the class may not change -/
def FC (M M' : Mem) : Prop := ∀ a, 142 ≤ a → a ≠ 175 → M' a = M a
/-- what a call of the reference may not change -/
def FR (M M' : Mem) : Prop := ∀ a, (a < 142 ∨ 175 ≤ a) → M' a = M a
def PC (X : Nat × (Nat → Int32)) (s : Bool × Bool) (dh dl t : Nat) (M : Mem) (Q : MOut → MHp → Prop) (r : R3) : Prop :=
  (∀ v S', r = (0, v, S') → ∀ M', RC S' M' → FC M M' → Q (rI v) (mkh X s dh dl t M')) ∧ (∀ (E : Nat) S', r = ((E : Int) + 1, 0, S') → ∀ M', RC S' M' → FC M M' → Q (.inr E) (mkh X s dh dl (t + 1) M'))
theorem FC.rfl {M : Mem} : FC M M := fun _ _ _ => Eq.refl _
theorem FC.pw {M M' : Mem} {a : Nat} {i x : Int} (h : FC M M') (ha : a < 142 ∨ a = 175) : FC M (po M' a i x) := by
  intro b hb hb2
  funext j
  rw [po_ne (by omega), h b hb hb2]
theorem FC.trans {M M' M'' : Mem} (h : FC M M') (h2 : FC M' M'') : FC M M'' := fun a ha ha2 => by rw [h2 a ha ha2, h a ha ha2]
theorem FC.fr {M M' : Mem} {n : Nat} (hn : n < 142) (h : ∀ a, a ≠ n → M' a = M a) : FC M M' := fun a ha _ => h a (by omega)
theorem FC.fr2 {M M' : Mem} {n m : Nat} (hn : n < 142) (hm : m < 142) (h : ∀ a, a ≠ n → a ≠ m → M' a = M a) : FC M M' := fun a ha _ => h a (by omega) (by omega)
theorem RC.fr2 {S : St} {M M' : Mem} {n m : Nat} (h : RC S M) (hn : cst n = false) (h2 : n ≠ 2) (hm : cst m = false) (h3 : m ≠ 2) (hf : ∀ a, a ≠ n → a ≠ m → M' a = M a) : RC S M' := by
  have e : ∀ a, a ≠ n → a ≠ m → ∀ i, pk M' a i = pk M a i := fun a ha hb i => by unfold pk; rw [hf a ha hb]
  refine ⟨fun b hb j => ?_, ?_⟩
  · rw [e b ?_ ?_, h.1 b hb j]
    · rintro rfl; rw [hn] at hb; cases hb
    · rintro rfl; rw [hm] at hb; cases hb
  · rw [e 2 (fun h => h2 h.symm) (fun h => h3 h.symm), h.2]
theorem RC.put {S : St} {M : Mem} {a : Nat} {i x : Int} (h : RC S M) (ha : a ≠ 2) : RC (su S a i (wz x)) (po M a i x) := by
  refine ⟨fun b hb j => ?_, ?_⟩
  · rw [pk_po]
    unfold su
    split
    · rfl
    · exact h.1 b hb j
  · rw [pk_po, if_neg (by omega)]
    unfold su
    rw [if_neg (by omega)]
    exact h.2
theorem RC.putz {S : St} {M : Mem} {a : Nat} {i x : Int} (h : RC S M) (ha : a ≠ 2) (hx : wz x = x) : RC (su S a i x) (po M a i x) := by
  have := h.put (a := a) (i := i) (x := x) ha
  rw [hx] at this
  exact this
theorem RC.ref {S : St} {M : Mem} {k : Int} (h : RC S M) : RC (rf S k) (po M 105 k (S 105 k + 1)) := h.put (by decide)
theorem PC.ok {X : Nat × (Nat → Int32)} {s : Bool × Bool} {dh dl t : Nat} {M M' : Mem} {Q : MOut → MHp → Prop} {r : R3} {v : Int} {S' : St} (h : PC X s dh dl t M Q r) (e : r = (0, v, S')) (hC : RC S' M') (hF : FC M M') : Q (.inl (some (vI v))) (mkh X s dh dl t M') := h.1 v S' e M' hC hF
theorem PC.no {X : Nat × (Nat → Int32)} {s : Bool × Bool} {dh dl t : Nat} {M M' : Mem} {Q : MOut → MHp → Prop} {r : R3} (E : Nat) {S' : St} (h : PC X s dh dl t M Q r) (e : r = ((E : Int) + 1, 0, S')) (hC : RC S' M') (hF : FC M M') : Q (.inr E) (mkh X s dh dl (t + 1) M') := h.2 E S' e M' hC hF
def o_told (S : St) (w : Int) : R3 := if 0 ≤ w ∧ w ≤ 5 then (0, (if w = 0 then S 3 0 else if w = 1 then S 3 1 else if w = 2 then S 3 2 else if w = 3 then S 63 0 else if w = 4 then S 78 0 else S 78 9), S) else (2, 0, rf S 1)
def o_income (S : St) (p m : Int) : R3 := if 0 ≤ p ∧ p < S 3 0 then (if 0 ≤ m ∧ m ≤ 35 then (0, S 5 (36 * p + m), S) else (2, 0, rf S 1)) else (1, 0, rf S 0)
def o_good (S : St) (g w : Int) : R3 := if 0 ≤ g ∧ g < S 3 1 then (if 0 ≤ w ∧ w ≤ 5 then (0, (if w = 0 then S 11 g else if w = 1 then S 12 g else if w = 2 then S 13 g else if w = 3 then listedN S g else if w = 4 then S 83 g else S 84 g), S) else (2, 0, rf S 1)) else (1, 0, rf S 0)
def o_part (S : St) (g p : Int) : R3 := if 0 ≤ g ∧ g < S 3 1 then (if 0 ≤ p ∧ p < S 3 0 then (0, S 14 (4 * g + p), S) else (1, 0, rf S 0)) else (1, 0, rf S 0)
def o_act (S : St) (i w : Int) : R3 := if 0 ≤ w ∧ w ≤ 3 then (0, (if 0 ≤ i ∧ i < S 78 0 then (if w = 0 then S 79 i else if w = 1 then S 80 i else if w = 2 then S 81 i else S 82 i) else -1), S) else (2, 0, rf S 1)
def okDG (S : St) (d g : Int) : Prop := (0 ≤ d ∧ d < S 3 2) ∧ (0 ≤ g ∧ g < S 3 1)
def okMO (m o : Int) : Prop := (0 ≤ m ∧ m ≤ 9999) ∧ (0 ≤ o ∧ o ≤ 2)
theorem RC.at2 {S : St} {M : Mem} (h : RC S M) : pk M 2 5 = S 2 5 := h.2
theorem rI_inj {x : Int} : rI x = .inl (some (vI x)) := rfl
def o_status (S : St) (w : Int) : R3 := (0, if 0 ≤ w ∧ w ≤ 2 then S 105 w else -1, S)
def o_count (S : St) (w : Int) : R3 := (0, if w = 0 then S 0 11 else if w = 1 then S 0 1 else -1, S)
def o_fault (S : St) : R3 := (0, S 2 5, S)
def o_forget (S : St) : R3 := (0, S 78 9, su S 78 9 0)
def o_stage (S : St) (p k : Int) : R3 := if 0 ≤ p ∧ p < S 3 0 then (if 0 ≤ k ∧ k ≤ 3 then (if k ≤ S 86 p then (0, 0, S) else (0, feesTo S k - feesTo S (S 86 p), su S 86 p k)) else (2, 0, rf S 1)) else (1, 0, rf S 0)
def o_promise (S : St) (d m k : Int) : R3 := if 0 ≤ d ∧ d < S 3 2 then (if (1 ≤ m ∧ m ≤ 999) ∧ (0 ≤ k ∧ k ≤ 35) then (if 8 ≤ S 78 9 then (0, -1, S) else (0, S 78 9, su (su (su (su S 87 (S 78 9) d) 88 (S 78 9) m) 89 (S 78 9) k) 78 9 (S 78 9 + 1))) else (2, 0, rf S 1)) else (1, 0, rf S 0)
def o_sell (S : St) (g x m : Int) : R3 := if 0 ≤ g ∧ g < S 3 1 then (if (0 ≤ x ∧ x ≤ 9999) ∧ (0 ≤ m ∧ m ≤ 9999) then (if listedN S g = 0 ∨ gone S g = true then (0, -3, S) else if S 28 g ≤ m then (0, -2, su S 84 g 1) else if x < (S 12 g + 1) / 2 then (0, -1, S) else (0, share S g (S 11 g) x, su S 83 g x)) else (2, 0, rf S 1)) else (1, 0, rf S 0)
def tkR (S : St) (d g m o : Int) (r : R3) : R3 := if (0 ≤ d ∧ d < S 3 2) ∧ (0 ≤ g ∧ g < S 3 1) then (if (0 ≤ m ∧ m ≤ 9999) ∧ (0 ≤ o ∧ o ≤ 2) then r else (2, 0, rf S 1)) else (1, 0, rf S 0)
def o_bars (S : St) (d g m o : Int) : R3 := tkR S d g m o (0, barred S d g m o, S)
def o_late (S : St) (d g m o : Int) : R3 := tkR S d g m o (0, lateBar S d g m o, S)
def o_isSo (S : St) (r d g m o : Int) : R3 := if 0 ≤ r ∧ r < S 63 0 then tkR S d g m o (0, bi (holdsR S (fct S d g m o m) r), S) else (1, 0, rf S 0)
def addAct (S : St) (d g m o : Int) : St := su (su (su (su (su S 79 (S 78 0) d) 80 (S 78 0) g) 81 (S 78 0) m) 82 (S 78 0) o) 78 0 (S 78 0 + 1)
def o_take (S : St) (d g m o : Int) : R3 := tkR S d g m o (if m < lastMin S then (3, 0, rf S 2) else if ¬ barred S d g m o = -1 then (0, -1, S) else if listedFor S d g = true ∨ gone S g = true ∨ ¬ S 85 d = 0 then (0, -2, S) else if 24 ≤ S 78 0 then (0, -3, S) else (0, S 78 0, addAct S d g m o))
def wrongN (S : St) : Nat → Int
  | 0 => 0
  | n + 1 => if lateBar S (S 79 n) (S 80 n) (S 81 n) (S 82 n) = -1 then wrongN S n else ior (wrongN S n) (ishl 1 n)
def o_wrong (S : St) : R3 := (0, wrongN S (S 78 0).toNat, S)
def lcg (x : Int) : Int := wz (x * 1103515245 + 12345)
def drw (x : Int) : Int := iand (iush x 16) 7
def drS (S : St) (p x0 m : Int) : Nat → Int × Int × Int × Int × Int
  | 0 => (x0, 0, 0, 0, 0)
  | n + 1 =>
    let q := drS S p x0 m n
    if listedN S n = 0 ∨ gone S n = true then q
    else if S 28 n ≤ m then (q.1, q.2.1, q.2.2.1, q.2.2.2.1 + 1, q.2.2.2.2)
    else if S 12 n * (2 + drw (lcg q.1)) / 8 < (S 12 n + 1) / 2 then (lcg q.1, q.2.1, q.2.2.1 + 1, q.2.2.2.1, q.2.2.2.2)
    else (lcg q.1, q.2.1 + S 12 n * (2 + drw (lcg q.1)) / 8, q.2.2.1, q.2.2.2.1, q.2.2.2.2 + if isFor S n p = true then share S n p (S 12 n * (2 + drw (lcg q.1)) / 8) else 0)
def o_drawn (S : St) (p x w : Int) : R3 :=
  if 0 ≤ p ∧ p < S 3 0 then (if 0 ≤ w ∧ w ≤ 3 then (0, (if w = 0 then (drS S p x (lastMin S) (S 3 1).toNat).2.1 else if w = 1 then (drS S p x (lastMin S) (S 3 1).toNat).2.2.1 else if w = 2 then (drS S p x (lastMin S) (S 3 1).toNat).2.2.2.1 else (drS S p x (lastMin S) (S 3 1).toNat).2.2.2.2), S) else (2, 0, rf S 1)) else (1, 0, rf S 0)
/-! bits -/
theorem drw_rng (x : Int) : 0 ≤ drw x ∧ drw x ≤ 7 := by
  have h : ∀ y : Int32, 0 ≤ (y &&& 7).toInt ∧ (y &&& 7).toInt ≤ 7 := by
    intro y
    have e : (y &&& 7).toInt = ((y.toBitVec &&& 7#32).toNat : Int) := by
      have h1 : (y.toBitVec &&& 7#32).toNat ≤ 7 := by
        rw [BitVec.toNat_and]
        exact Nat.and_le_right
      show (y.toBitVec &&& 7#32).toInt = _
      rw [BitVec.toInt_eq_toNat_of_lt (by omega)]
    have h1 : (y.toBitVec &&& 7#32).toNat ≤ 7 := by
      rw [BitVec.toNat_and]
      exact Nat.and_le_right
    omega
  exact h _
theorem share_rng {S : St} {g p x : Int} (hH : hou S) (hg : 0 ≤ g ∧ g < S 3 1) (hp : 0 ≤ p ∧ p < S 3 0) (hx : 0 ≤ x ∧ x ≤ 9999) : -39996 ≤ share S g p x ∧ share S g p x ≤ 9999 := by
  have h3 := hH.np
  unfold share
  split
  · have := cut_rng hH hg (p := p) ⟨hp.1, by omega⟩ hx
    omega
  · have a1 : ((S 3 0).toNat : Int) * 0 ≤ sm (fun o => if o = p then 0 else cut S g o x) (S 3 0).toNat := sm_ge (fun i hi => by
      have := cut_rng hH hg (p := i) ⟨by omega, by omega⟩ hx
      split <;> omega)
    have a2 : sm (fun o => if o = p then 0 else cut S g o x) (S 3 0).toNat ≤ ((S 3 0).toNat : Int) * 9999 := sm_le (fun i hi => by
      have := cut_rng hH hg (p := i) ⟨by omega, by omega⟩ hx
      split <;> omega)
    omega
theorem listedN_rng {S : St} {g : Int} (hI : crs S 78) : 0 ≤ listedN S g ∧ listedN S g ≤ 24 := by
  have := c78_acts hI
  unfold listedN
  have a1 : ((S 78 0).toNat : Int) * 0 ≤ sm (fun i => if S 80 i = g then 1 else 0) (S 78 0).toNat := sm_ge (fun i hi => by split <;> omega)
  have a2 : sm (fun i => if S 80 i = g then 1 else 0) (S 78 0).toNat ≤ ((S 78 0).toNat : Int) * 1 := sm_le (fun i hi => by split <;> omega)
  omega
theorem bi_wz (b : Bool) : wz (bi b) = bi b := by cases b <;> rfl
theorem bi_0 (b : Bool) : (bi b = 0) = (b = false) := by cases b <;> simp [bi]
theorem price_rng {v x : Int} (h1 : 1 ≤ v) (h2 : v ≤ 999) : 0 ≤ v * (2 + drw x) ∧ v * (2 + drw x) ≤ 8991 := by
  have h3 := drw_rng x
  have a1 : v * (2 + drw x) ≤ 999 * 9 := Int.mul_le_mul h2 (by omega) (by omega) (by omega)
  have a2 : 0 ≤ v * (2 + drw x) := Int.mul_nonneg (by omega) (by omega)
  omega
theorem drS_rng {S : St} {p x0 m : Int} (hH : hou S) (hp : 0 ≤ p ∧ p < S 3 0) : ∀ n : Nat, (n : Int) ≤ S 3 1 →
    (0 ≤ (drS S p x0 m n).2.1 ∧ (drS S p x0 m n).2.1 ≤ n * 9999) ∧ (0 ≤ (drS S p x0 m n).2.2.1 ∧ (drS S p x0 m n).2.2.1 ≤ n) ∧ (0 ≤ (drS S p x0 m n).2.2.2.1 ∧ (drS S p x0 m n).2.2.2.1 ≤ n) ∧ (-(n * 39996) ≤ (drS S p x0 m n).2.2.2.2 ∧ (drS S p x0 m n).2.2.2.2 ≤ n * 9999) := by
  intro n
  induction n with
  | zero => intro _; simp [drS]
  | succ n ih =>
    intro hn
    have h := ih (by omega)
    have hw := hH.wor n (by omega) (by omega)
    have hpr := price_rng (x := lcg (drS S p x0 m n).1) hw.1 hw.2
    have hsh := share_rng hH (g := n) ⟨by omega, by omega⟩ hp (x := S 12 n * (2 + drw (lcg (drS S p x0 m n).1)) / 8) ⟨by omega, by omega⟩
    simp only [drS]
    generalize drS S p x0 m n = q at *
    obtain ⟨q1, q2, q3, q4, q5⟩ := q
    simp only at *
    split
    · simp only; omega
    · split
      · simp only; omega
      · split
        · simp only; omega
        · simp only
          split <;> omega
def whenF (S : St) (d g o : Int) : Nat → Int → Int
  | 0, _ => -1
  | n + 1, t => if barred S d g t o = -1 then t else whenF S d g o n (t + 1)
def o_when (S : St) (d g m o : Int) : R3 := tkR S d g m o (0, whenF S d g o (10000 - m).toNat m, S)
/-! no atom changes between two minutes of news -/
def snr (n w t : Int) : Int := if t < w then min n w else n
def newsB (S : St) (p g t : Int) : Int := snr (snr (snr ((t / 60 + 1) * 60) (S 10 p) t) (S 27 g) t) (S 28 g) t
def newsD (S : St) (p g t : Int) : Nat → Int
  | 0 => newsB S p g t
  | n + 1 => if S 29 n = p then snr (newsD S p g t n) (S 31 n) t else newsD S p g t n
theorem newsD_b {S : St} {p g t : Int} : ∀ n, (t < newsD S p g t n ∧ newsD S p g t n ≤ (t / 60 + 1) * 60) ∧ (S 10 p ≤ t ∨ newsD S p g t n ≤ S 10 p) ∧ (S 27 g ≤ t ∨ newsD S p g t n ≤ S 27 g) ∧ (S 28 g ≤ t ∨ newsD S p g t n ≤ S 28 g) := by
  intro n
  induction n with
  | zero =>
    simp only [newsD, newsB, snr]
    have h : t < (t / 60 + 1) * 60 := by omega
    grind
  | succ n ih =>
    simp only [newsD]
    split
    · simp only [snr]
      grind
    · exact ih
theorem newsD_d {S : St} {p g t : Int} : ∀ n : Nat, ∀ k : Nat, k < n → S 29 k = p → S 31 k ≤ t ∨ newsD S p g t n ≤ S 31 k := by
  intro n
  induction n with
  | zero => intro k hk; omega
  | succ n ih =>
    intro k hk hp
    simp only [newsD]
    by_cases h : k = n
    · subst h
      rw [if_pos hp]
      simp only [snr]
      split <;> omega
    · have h1 := ih k (by omega) hp
      split
      · simp only [snr]
        split <;> omega
      · exact h1
theorem barred_same {S : St} {d g m t o : Int} (hL : wfl S) (h1 : m ≤ t) (h2 : t < newsD S (S 29 d) g m (S 3 2).toNat) : barred S d g t o = barred S d g m o := by
  have hb := newsD_b (S := S) (p := S 29 d) (g := g) (t := m) (S 3 2).toNat
  have hd := newsD_d (S := S) (p := S 29 d) (g := g) (t := m) (S 3 2).toNat
  unfold barred
  apply barOf_congr hL
  intro j _ _
  unfold fct
  have e1 : t / 60 = m / 60 := by omega
  have e2 : owedIn S (S 29 d) t = owedIn S (S 29 d) m := by
    unfold owedIn
    apply sm_congr
    intro i hi
    have h3 := hd i hi
    by_cases h4 : S 29 i = S 29 d
    · have h5 := h3 h4
      by_cases h6 : S 31 i ≤ t
      · have h7 : S 31 i ≤ m := by omega
        simp only [h6, h7]
      · have h7 : ¬ S 31 i ≤ m := by omega
        simp only [h6, h7]
    · simp [h4]
  have e3 : (S 10 (S 29 d) ≤ t) = (S 10 (S 29 d) ≤ m) := propext ⟨fun _ => by omega, fun _ => by omega⟩
  have e4 : (S 27 g ≤ t) = (S 27 g ≤ m) := propext ⟨fun _ => by omega, fun _ => by omega⟩
  have e5 : (S 28 g ≤ t) = (S 28 g ≤ m) := propext ⟨fun _ => by omega, fun _ => by omega⟩
  simp only [e1, e2, e3, e4, e5]
theorem whenF_skip {S : St} {d g o : Int} : ∀ (n : Nat) (t u : Int), t ≤ u → u ≤ t + n → (∀ v, t ≤ v → v < u → ¬ barred S d g v o = -1) → whenF S d g o n t = whenF S d g o (n - (u - t).toNat) u := by
  intro n
  induction n with
  | zero => intro t u h1 h2 _; rw [show u = t by omega]; simp
  | succ n ih =>
    intro t u h1 h2 h3
    by_cases h4 : t = u
    · subst h4; simp
    · simp only [whenF]
      rw [if_neg (h3 t (by omega) (by omega)), ih (t + 1) u (by omega) (by omega) (fun v a b => h3 v (by omega) b)]
      congr 1
      omega
theorem whenF_none {S : St} {d g o : Int} : ∀ (n : Nat) (t : Int), (∀ v, t ≤ v → v < t + n → ¬ barred S d g v o = -1) → whenF S d g o n t = -1 := by
  intro n
  induction n with
  | zero => intro t _; rfl
  | succ n ih =>
    intro t h
    simp only [whenF]
    rw [if_neg (h t (by omega) (by omega)), ih (t + 1) (fun v a b => h v (by omega) (by omega))]
theorem whenF_rng {S : St} {d g o : Int} : ∀ (n : Nat) (t : Int), whenF S d g o n t = -1 ∨ (t ≤ whenF S d g o n t ∧ whenF S d g o n t < t + n) := by
  intro n
  induction n with
  | zero => intro t; left; rfl
  | succ n ih =>
    intro t
    simp only [whenF]
    split
    · right; omega
    · rcases ih (t + 1) with h | h
      · left; exact h
      · right; omega
/-! what changes lies in these cells -/
def fx (l : List Nat) (M M' : Mem) : Prop := ∀ a, a ∉ l → M' a = M a
theorem fx.rfl {l : List Nat} {M : Mem} : fx l M M := fun _ _ => Eq.refl _
theorem fx.pw {l : List Nat} {M M' : Mem} {a : Nat} {i x : Int} (h : fx l M M') (ha : a ∈ l) : fx l M (po M' a i x) := by
  intro b hb
  funext j
  rw [po_ne (fun h1 : b = a ∧ j = i => hb (by rw [h1.1]; exact ha)), h b hb]
theorem fx.trans {l : List Nat} {M M' M'' : Mem} (h : fx l M M') (h2 : fx l M' M'') : fx l M M'' := fun a ha => by rw [h2 a ha, h a ha]
theorem fx.sub {l l' : List Nat} {M M' : Mem} (h : fx l M M') (hs : l.all (fun a => decide (a ∈ l')) = true) : fx l' M M' := fun a ha => h a (fun h1 => ha (by simpa using List.all_eq_true.mp hs a h1))
theorem fx.at {l : List Nat} {M M' : Mem} {a : Nat} {i : Int} (h : fx l M M') (ha : a ∉ l) : pk M' a i = pk M a i := by unfold pk; rw [h a ha]
theorem RC.fxx {S : St} {M M' : Mem} {l : List Nat} (h : RC S M) (hf : fx l M M') (hl : l.all (fun a => !cst a && decide (a ≠ 2)) = true) : RC S M' := by
  have e : ∀ a, a ∉ l → ∀ i, pk M' a i = pk M a i := fun a ha i => by unfold pk; rw [hf a ha]
  have hl2 : ∀ a ∈ l, cst a = false ∧ a ≠ 2 := fun a ha => by
    have := List.all_eq_true.mp hl a ha
    simp at this
    exact this
  refine ⟨fun b hb j => ?_, ?_⟩
  · rw [e b ?_, h.1 b hb j]
    intro h1
    rw [(hl2 b h1).1] at hb
    cases hb
  · rw [e 2 (fun h1 => (hl2 2 h1).2 (Eq.refl 2)), h.2]
theorem FC.fxx {M M' : Mem} {l : List Nat} (hf : fx l M M') (hl : l.all (fun a => decide (a < 142)) = true) : FC M M' := fun a ha _ => hf a (fun h1 => by
  have := List.all_eq_true.mp hl a h1
  simp at this
  omega)
/-- a row is filled -/
def flm (M : Mem) (d : Nat) (f n x : Int) : Mem := fun e j => if e = d ∧ f ≤ j ∧ j < f + n then Int32.ofInt x else M e j
theorem flm_0 {M : Mem} {d : Nat} {f x : Int} : flm M d f 0 x = M := by
  funext e j
  unfold flm
  rw [if_neg (by omega)]
theorem flm_s {M : Mem} {d : Nat} {f n x : Int} (hn : 0 ≤ n) : po (flm M d f n x) d (f + n) x = flm M d f (n + 1) x := by
  funext e j
  simp only [flm, po]
  grind
theorem pk_flm {M : Mem} {d e : Nat} {f n x j : Int} : pk (flm M d f n x) e j = if e = d ∧ f ≤ j ∧ j < f + n then wz x else pk M e j := by
  unfold pk flm
  split <;> rfl
theorem fx.fil {l : List Nat} {M M' : Mem} {a : Nat} {f n x : Int} (h : fx l M M') (ha : a ∈ l) : fx l M (flm M' a f n x) := by
  intro b hb
  funext j
  unfold flm
  rw [if_neg (fun h1 : b = a ∧ _ => hb (by rw [h1.1]; exact ha)), h b hb]
/-! coin by ranks -/
def coin (S : St) (p : Int) : Int := sm (fun g => if ¬ S 83 g = -1 ∧ isFor S g p = true then share S g p (S 83 g) else 0) (S 3 1).toNat
def nwN (S : St) (p a : Int) : Nat → Int
  | 0 => -1
  | n + 1 => if S 29 n = p ∧ S 85 n = 0 ∧ a < S 31 n ∧ (nwN S p a n = -1 ∨ S 31 n < nwN S p a n) then S 31 n else nwN S p a n
def nw (S : St) (p a : Int) : Int := nwN S p a (S 3 2).toNat
def inr (S : St) (p w d : Int) : Bool := decide (S 29 d = p ∧ S 85 d = 0 ∧ S 31 d = w)
def owedR (S : St) (p w : Int) : Int := sm (fun d => if inr S p w d = true then S 30 d else 0) (S 3 2).toNat
def cutR (S : St) (p w x d : Int) : Int := x * S 30 d / owedR S p w
def ovN (S : St) (p w x : Int) : Nat → Int
  | 0 => x - sm (fun d => if inr S p w d = true then cutR S p w x d else 0) (S 3 2).toNat
  | n + 1 => if inr S p w n = true ∧ 0 < ovN S p w x n ∧ cutR S p w x n < S 30 n then ovN S p w x n - 1 else ovN S p w x n
def payG (S : St) (p w x : Int) (q : Int → Int) : Int → Int := fun d => if inr S p w d = true then (if 0 < ovN S p w x d.toNat ∧ cutR S p w x d < S 30 d then cutR S p w x d + 1 else cutR S p w x d) else q d
def rk (S : St) (p : Int) : Nat → Int × (Int → Int) × Int
  | 0 => (-1, fun _ => 0, max 0 (coin S p - feesTo S (S 86 p)))
  | n + 1 =>
    let q := rk S p n
    if nw S p q.1 = -1 then q else (nw S p q.1, payG S p (nw S p q.1) (min q.2.2 (owedR S p (nw S p q.1))) q.2.1, q.2.2 - min q.2.2 (owedR S p (nw S p q.1)))
def ranks (S : St) (p : Int) : Int × (Int → Int) × Int := rk S p (S 3 2).toNat
def got (S : St) (d : Int) : Int := (ranks S (S 29 d)).2.1 d
def o_person (S : St) (p w : Int) : R3 := if 0 ≤ p ∧ p < S 3 0 then (if 0 ≤ w ∧ w ≤ 4 then (0, (if w = 0 then S 4 p else if w = 1 then S 86 p else if w = 2 then feesTo S (S 86 p) else if w = 3 then coin S p else (ranks S p).2.2), S) else (2, 0, rf S 1)) else (1, 0, rf S 0)
def o_debt (S : St) (d w : Int) : R3 := if 0 ≤ d ∧ d < S 3 2 then (if 0 ≤ w ∧ w ≤ 4 then (0, (if w = 0 then S 29 d else if w = 1 then S 30 d else if w = 2 then S 31 d else if w = 3 then got S d else S 85 d), S) else (2, 0, rf S 1)) else (1, 0, rf S 0)
def o_aside (S : St) (d : Int) : R3 := if 0 ≤ d ∧ d < S 3 2 then (0, got S d, su S 85 d 1) else (1, 0, rf S 0)
theorem fees_rng {S : St} {k : Int} (hH : hou S) (h2 : k ≤ 3) : 0 ≤ feesTo S k ∧ feesTo S k ≤ 396 := by
  unfold feesTo
  have a1 : ((k + 1).toNat : Int) * 0 ≤ sm (fun j => S 32 j) (k + 1).toNat := sm_ge (fun i hi => by have := hH.fee i (by omega) (by omega); omega)
  have a2 : sm (fun j => S 32 j) (k + 1).toNat ≤ ((k + 1).toNat : Int) * 99 := sm_le (fun i hi => by have := hH.fee i (by omega) (by omega); omega)
  omega
theorem coin_rng {S : St} {p : Int} (hH : hou S) (hI : crs S 78) (hp : 0 ≤ p ∧ p < S 3 0) : -479952 ≤ coin S p ∧ coin S p ≤ 119988 := by
  have h1 := hH.ng
  have hb : ∀ i : Nat, i < (S 3 1).toNat → -39996 ≤ (if ¬ S 83 i = -1 ∧ isFor S i p = true then share S i p (S 83 i) else 0) ∧ (if ¬ S 83 i = -1 ∧ isFor S i p = true then share S i p (S 83 i) else 0) ≤ 9999 := by
    intro i hi
    have a1 := c78_sold hI i (by omega) (by omega)
    split
    · rename_i h2
      exact share_rng hH ⟨by omega, by omega⟩ hp ⟨by omega, by omega⟩
    · omega
  unfold coin
  have a1 := sm_ge (f := fun g => if ¬ S 83 g = -1 ∧ isFor S g p = true then share S g p (S 83 g) else 0) (b := -39996) (fun i hi => (hb i hi).1)
  have a2 := sm_le (f := fun g => if ¬ S 83 g = -1 ∧ isFor S g p = true then share S g p (S 83 g) else 0) (b := 9999) (fun i hi => (hb i hi).2)
  omega
theorem nwN_rng {S : St} {p a : Int} (hH : hou S) : ∀ n : Nat, (n : Int) ≤ S 3 2 → -1 ≤ nwN S p a n ∧ nwN S p a n ≤ 9999 := by
  intro n
  induction n with
  | zero => intro _; simp [nwN]
  | succ n ih =>
    intro hn
    have := hH.writ n (by omega) (by omega)
    simp only [nwN]
    split
    · omega
    · exact ih (by omega)
theorem owedR_rng {S : St} {p w : Int} (hH : hou S) : 0 ≤ owedR S p w ∧ owedR S p w ≤ 59994 := by
  have h1 := hH.nd
  unfold owedR
  have a1 : ((S 3 2).toNat : Int) * 0 ≤ sm (fun d => if inr S p w d = true then S 30 d else 0) (S 3 2).toNat := sm_ge (fun i hi => by have := hH.amt i (by omega) (by omega); split <;> omega)
  have a2 : sm (fun d => if inr S p w d = true then S 30 d else 0) (S 3 2).toNat ≤ ((S 3 2).toNat : Int) * 9999 := sm_le (fun i hi => by have := hH.amt i (by omega) (by omega); split <;> omega)
  omega
theorem mulR_rng {S : St} {x d : Int} (hH : hou S) (hx : 0 ≤ x ∧ x ≤ 59994) (hd : 0 ≤ d ∧ d < S 3 2) : 0 ≤ x * S 30 d ∧ x * S 30 d ≤ 599880006 := by
  have h1 := hH.amt d hd.1 hd.2
  have a1 : x * S 30 d ≤ 59994 * 9999 := Int.mul_le_mul hx.2 h1.2 (by omega) (by omega)
  have a2 : 0 ≤ x * S 30 d := Int.mul_nonneg hx.1 (by omega)
  omega
theorem cutR_rng {S : St} {p w x d : Int} (hH : hou S) (hx : 0 ≤ x ∧ x ≤ owedR S p w) (ho : 0 < owedR S p w) (hd : 0 ≤ d ∧ d < S 3 2) : 0 ≤ cutR S p w x d ∧ cutR S p w x d ≤ S 30 d := by
  have h1 := hH.amt d hd.1 hd.2
  unfold cutR
  refine ⟨Int.ediv_nonneg (Int.mul_nonneg hx.1 (by omega)) (by omega), ?_⟩
  apply Int.ediv_le_of_le_mul ho
  rw [Int.mul_comm]
  exact Int.mul_le_mul_of_nonneg_left hx.2 (by omega)
theorem sm_pos {f : Int → Int} {k : Nat} (hk : 0 < f k) : ∀ {n : Nat}, k < n → (∀ i : Nat, i < n → 0 ≤ f i) → 0 < sm f n := by
  intro n
  induction n with
  | zero => intro h; omega
  | succ n ih =>
    intro h h0
    have h1 : (n : Int) * 0 ≤ sm f n := sm_ge (fun i hi => h0 i (by omega))
    have h2 := h0 n (by omega)
    simp only [sm]
    by_cases e : k = n
    · subst e; omega
    · have := ih (by omega) (fun i hi => h0 i (by omega)); omega
theorem nwN_is {S : St} {p a : Int} : ∀ n : Nat, ¬ nwN S p a n = -1 → ∃ k : Nat, k < n ∧ S 29 k = p ∧ S 85 k = 0 ∧ S 31 k = nwN S p a n ∧ a < S 31 k := by
  intro n
  induction n with
  | zero => intro h; exact absurd rfl h
  | succ n ih =>
    intro h
    simp only [nwN] at h ⊢
    split at h
    · rename_i h1
      rw [if_pos h1]
      exact ⟨n, by omega, h1.1, h1.2.1, rfl, h1.2.2.1⟩
    · rename_i h1
      rw [if_neg h1]
      obtain ⟨k, k1, k2⟩ := ih h
      exact ⟨k, by omega, k2⟩
theorem owedR_pos {S : St} {p a : Int} (hH : hou S) (h : ¬ nw S p a = -1) : 0 < owedR S p (nw S p a) := by
  have h0 := hH.nd
  obtain ⟨k, k1, k2, k3, k4, k5⟩ := nwN_is _ h
  unfold owedR
  apply sm_pos (k := k)
  · have hi : inr S p (nw S p a) k = true := by unfold inr nw; simp [k2, k3, k4]
    rw [if_pos hi]
    have := hH.amt k (by omega) (by omega)
    omega
  · exact k1
  · intro i hi
    have := hH.amt i (by omega) (by omega)
    split <;> omega
theorem rk_stop {S : St} {p : Int} {n : Nat} (h : nw S p (rk S p n).1 = -1) : ∀ m, rk S p (n + m) = rk S p n := by
  intro m
  induction m with
  | zero => rfl
  | succ m ih =>
    show rk S p (n + m + 1) = _
    simp only [rk]
    rw [ih, if_pos h]
theorem rk_left {S : St} {p : Int} (hH : hou S) : ∀ n, 0 ≤ (rk S p n).2.2 := by
  intro n
  induction n with
  | zero => simp only [rk]; omega
  | succ n ih =>
    simp only [rk]
    split
    · exact ih
    · simp only
      omega
theorem rk_left2 {S : St} {p : Int} (hH : hou S) : ∀ n, (rk S p n).2.2 ≤ (rk S p 0).2.2 := by
  intro n
  induction n with
  | zero => exact Int.le_refl _
  | succ n ih =>
    have := rk_left (p := p) hH n
    simp only [rk] at ih ⊢
    split
    · exact ih
    · have := owedR_rng (p := p) (w := nw S p (rk S p n).1) hH
      simp only
      omega
theorem rk_w {S : St} {p : Int} (hH : hou S) : ∀ n, -1 ≤ (rk S p n).1 ∧ (rk S p n).1 ≤ 9999 := by
  intro n
  have h0 := hH.nd
  induction n with
  | zero => simp [rk]
  | succ n ih =>
    simp only [rk]
    split
    · exact ih
    · exact nwN_rng hH _ (by omega)
/-! promises through the months: what is owed still, where it is broken, where it is done; before a month -/
def pmN (a c f : Int) (sp : Int → Int) : Nat → Int × Int × Int
  | 0 => (a, -1, -1)
  | m + 1 =>
    let q := pmN a c f sp m
    if (m : Int) < f ∨ q.1 = 0 ∨ ¬ q.2.1 = -1 then q
    else if sp m < min c q.1 then (q.1, m, q.2.2)
    else (q.1 - min c q.1, q.2.1, if q.1 - min c q.1 = 0 then (m : Int) else q.2.2)
def pyN (a c f : Int) (sp : Int → Int) (m : Nat) : Int := (pmN a c f sp m).1 - (pmN a c f sp (m + 1)).1
def spN (S : St) (p : Int) : Nat → Int → Int
  | 0 => fun u => S 5 (36 * p + u) - S 4 p
  | i + 1 => fun u => if S 29 (S 87 i) = p then spN S p i u - pyN (S 30 (S 87 i)) (S 88 i) (S 89 i) (spN S p i) u.toNat else spN S p i u
def prK (S : St) (k : Nat) : Int × Int × Int := pmN (S 30 (S 87 k)) (S 88 k) (S 89 k) (spN S (S 29 (S 87 k)) k) 36
theorem pm_early {a c f : Int} {sp : Int → Int} : ∀ m : Nat, (m : Int) ≤ f → pmN a c f sp m = (a, -1, -1) := by
  intro m
  induction m with
  | zero => intro _; rfl
  | succ m ih => intro h; simp only [pmN]; rw [ih (by omega), if_pos (Or.inl (by omega))]
theorem pm_stop {a c f : Int} {sp : Int → Int} {m : Nat} (h : (pmN a c f sp m).1 = 0 ∨ ¬ (pmN a c f sp m).2.1 = -1) : ∀ j, pmN a c f sp (m + j) = pmN a c f sp m := by
  intro j
  induction j with
  | zero => rfl
  | succ j ih => show pmN a c f sp (m + j + 1) = _; simp only [pmN]; rw [ih, if_pos (Or.inr h)]
theorem pm_rng {a c f : Int} {sp : Int → Int} (ha : 0 ≤ a) (hc : 1 ≤ c) : ∀ m : Nat, (0 ≤ (pmN a c f sp m).1 ∧ (pmN a c f sp m).1 ≤ a) ∧ (-1 ≤ (pmN a c f sp m).2.1 ∧ (pmN a c f sp m).2.1 < m) ∧ (-1 ≤ (pmN a c f sp m).2.2 ∧ (pmN a c f sp m).2.2 < m) := by
  intro m
  induction m with
  | zero => simp [pmN, ha]
  | succ m ih =>
    simp only [pmN]
    generalize pmN a c f sp m = q at *
    obtain ⟨q1, q2, q3⟩ := q
    simp only at *
    split
    · simp only; omega
    · split
      · simp only; omega
      · simp only
        split <;> omega
/-- what is paid lies within the spare -/
theorem py_rng {a c f : Int} {sp : Int → Int} (ha : 0 ≤ a) (hc : 1 ≤ c) (m : Nat) : 0 ≤ pyN a c f sp m ∧ pyN a c f sp m ≤ c ∧ (pyN a c f sp m = 0 ∨ pyN a c f sp m ≤ sp m) := by
  have h := pm_rng (f := f) (sp := sp) ha hc m
  unfold pyN
  simp only [pmN]
  generalize pmN a c f sp m = q at *
  obtain ⟨q1, q2, q3⟩ := q
  simp only at *
  split
  · simp only; omega
  · split
    · simp only; omega
    · simp only; omega
theorem spN_rng {S : St} {p : Int} (hH : hou S) (hI : crs S 78) (hp : 0 ≤ p ∧ p < S 3 0) : ∀ k : Nat, (k : Int) ≤ S 78 9 → ∀ u, 0 ≤ u → u < 36 → -999 ≤ spN S p k u ∧ spN S p k u ≤ 999 := by
  intro k
  induction k with
  | zero =>
    intro _ u h1 h2
    have a1 := hH.inc p u hp.1 hp.2 h1 h2
    have a2 := hH.needs p hp.1 hp.2
    simp only [spN]
    omega
  | succ k ih =>
    intro hk u h1 h2
    have a0 := ih (by omega) u h1 h2
    have b1 := c78_pd hI k (by omega) (by omega)
    have b2 := c78_pm hI k (by omega) (by omega)
    have b3 := hH.amt (S 87 k) b1.1 b1.2
    have b4 := py_rng (a := S 30 (S 87 k)) (c := S 88 k) (f := S 89 k) (sp := spN S p k) (by omega) (by omega) u.toNat
    rw [Int.toNat_of_nonneg h1] at b4
    simp only [spN]
    split
    · omega
    · exact a0
def doneA (a c f : Int) : Int := f + (a - 1) / c
def whb (sp : Int → Int) (c f : Int) : Nat → Bool
  | 0 => true
  | n + 1 => whb sp c f n && decide (c ≤ sp (f + n))
def wouldB (sp : Int → Int) (a c f : Int) : Bool := whb sp c f ((a - 1) / c).toNat && decide (a - (a - 1) / c * c ≤ sp (doneA a c f))
def bsN (sp : Int → Int) (a f : Int) : Nat → Int × Int
  | 0 => (-1, -1)
  | n + 1 =>
    let q := bsN sp a f n
    if doneA a (n + 1) f < 36 ∧ (q.2 = -1 ∨ doneA a (n + 1) f < q.2) ∧ wouldB sp a (n + 1) f = true then ((n : Int) + 1, doneA a (n + 1) f) else q
def o_kept (S : St) (k w : Int) : R3 := if 0 ≤ k ∧ k < S 78 9 then (if 0 ≤ w ∧ w ≤ 2 then (0, (if w = 0 then (prK S k.toNat).2.1 else if w = 1 then (prK S k.toNat).2.2 else S 30 (S 87 k) - (prK S k.toNat).1), S) else (2, 0, rf S 1)) else (1, 0, rf S 0)
def o_spare (S : St) (p m : Int) : R3 := if 0 ≤ p ∧ p < S 3 0 then (if 0 ≤ m ∧ m ≤ 35 then (0, spN S p (S 78 9).toNat m, S) else (2, 0, rf S 1)) else (1, 0, rf S 0)
def o_best (S : St) (d m w : Int) : R3 := if 0 ≤ d ∧ d < S 3 2 then (if (0 ≤ m ∧ m ≤ 35) ∧ (0 ≤ w ∧ w ≤ 1) then (0, (if w = 0 then (bsN (spN S (S 29 d) (S 78 9).toNat) (S 30 d) m 999).1 else (bsN (spN S (S 29 d) (S 78 9).toNat) (S 30 d) m 999).2), S) else (2, 0, rf S 1)) else (1, 0, rf S 0)
/-! bytes, images -/
def byt (x k : Int) : Int := iand (iush x (24 - 8 * k)) 255
theorem iand_255 (x : Int) : 0 ≤ iand x 255 ∧ iand x 255 ≤ 255 := by
  have h : ∀ y : Int32, 0 ≤ (y &&& 255).toInt ∧ (y &&& 255).toInt ≤ 255 := by
    intro y
    have h1 : (y.toBitVec &&& 255#32).toNat ≤ 255 := by
      rw [BitVec.toNat_and]
      exact Nat.and_le_right
    have e : (y &&& 255).toInt = ((y.toBitVec &&& 255#32).toNat : Int) := by
      show (y.toBitVec &&& 255#32).toInt = _
      rw [BitVec.toInt_eq_toNat_of_lt (by omega)]
    omega
  exact h _
def apS (S : St) (x : Int) : St := fun a i => if a = 1 ∧ S 0 1 ≤ i ∧ i < S 0 1 + 4 then byt x (i - S 0 1) else if a = 0 ∧ i = 1 then S 0 1 + 4 else S a i
def o_feed (S : St) (a b c d e : Int) : R3 := if 600 < S 0 1 + 20 then (0, -1, S) else (0, S 0 1 + 20, apS (apS (apS (apS (apS S a) b) c) d) e)
def cpR (S : St) (b a : Nat) (n : Int) : St := fun e j => if e = b ∧ 0 ≤ j ∧ j < n then S a j else S e j
def cpC (S : St) (b a : Nat) : St :=
  cpR (cpR (cpR (cpR (cpR (cpR (cpR (cpR (cpR (cpR (cpR (su (su S b 0 (S a 0)) b 9 (S a 9)) (b + 1) (a + 1) 24) (b + 2) (a + 2) 24) (b + 3) (a + 3) 24) (b + 4) (a + 4) 24) (b + 5) (a + 5) 12) (b + 6) (a + 6) 12) (b + 7) (a + 7) 6) (b + 8) (a + 8) 4) (b + 9) (a + 9) 8) (b + 10) (a + 10) 8) (b + 11) (a + 11) 8
def o_image (S : St) : R3 := if 3 ≤ S 0 11 then (0, -1, S) else (0, S 0 11 + 1, su (cpC S (106 + 12 * (S 0 11).toNat) 78) 0 11 (S 0 11 + 1))
def o_restore (S : St) : R3 := if S 0 11 ≤ 0 then (0, -1, S) else (0, S 0 11 - 1, cpC (su S 0 11 (S 0 11 - 1)) 78 (106 + 12 * (S 0 11 - 1).toNat))
theorem RC.cp {S : St} {M : Mem} {a b n : Nat} (h : RC S M) (ha : cst a = true) (hb : b ≠ 2) : RC (cpR S b a n) (cpm M b a n) := by
  refine ⟨fun e he j => ?_, ?_⟩
  · rw [pk_cpm]
    unfold cpR
    split
    · exact h.1 a ha j
    · exact h.1 e he j
  · rw [pk_cpm, if_neg (by omega)]
    unfold cpR
    rw [if_neg (by omega)]
    exact h.2
theorem FC.cp {M M' : Mem} {a b n : Nat} (h : FC M M') (hb : b < 142) : FC M (cpm M' b a n) := by
  intro e he he2
  funext j
  unfold cpm
  rw [if_neg (by omega), h e he he2]
