/-! TEXTS: blanks, words, numbers -/
def scF (c : Int → Bool) : Nat → Int → Int
  | 0, p => p
  | k + 1, p => if c p = true then scF c k (p + 1) else p
def isB (S : St) (n p : Int) : Bool := decide (p < n ∧ S 1 p = 32)
def isL (S : St) (n p : Int) : Bool := decide (p < n ∧ 97 ≤ S 1 p ∧ S 1 p ≤ 122)
def isD (S : St) (n p : Int) : Bool := decide (p < n ∧ 48 ≤ S 1 p ∧ S 1 p ≤ 57)
def sk (S : St) (n p : Int) : Int := scF (isB S n) (n - p).toNat p
def we (S : St) (n p : Int) : Int := scF (isL S n) (n - p).toNat p
def dg (S : St) (n p : Int) : Int := scF (isD S n) (n - p).toNat p
def nvF (S : St) : Nat → Int → Int → Int
  | 0, _, v => v
  | k + 1, p, v => nvF S k (p + 1) (min 100000 (v * 10 + S 1 p - 48))
def nv (S : St) (q e : Int) : Int := nvF S (e - q).toNat q 0
/-- a number from lo to hi: 0, where it ends, what it is; or the fault and its place -/
def rdN (S : St) (n lo hi p : Int) : Int × Int × Int :=
  if dg S n (sk S n p) = sk S n p then (1, sk S n p, 0)
  else if nv S (sk S n p) (dg S n (sk S n p)) < lo ∨ hi < nv S (sk S n p) (dg S n (sk S n p)) then (2, sk S n p, 0)
  else (0, dg S n (sk S n p), nv S (sk S n p) (dg S n (sk S n p)))
def wal (S : St) (q : Int) (w : List Int32) : Nat → Bool
  | 0 => true
  | k + 1 => wal S q w k && decide (S 1 (q + k) = (w.getD k 0).toInt)
def isW (S : St) (q e : Int) (w : List Int32) : Bool := decide (e - q = w.length) && wal S q w w.length
theorem scF_rng {c : Int → Bool} : ∀ (k : Nat) (p : Int), p ≤ scF c k p ∧ scF c k p ≤ p + k := by
  intro k
  induction k with
  | zero => intro p; simp [scF]
  | succ k ih =>
    intro p
    simp only [scF]
    split
    · have := ih (p + 1); omega
    · omega
theorem scF_all {c : Int → Bool} : ∀ (k : Nat) (p j : Int), p ≤ j → j < scF c k p → c j = true := by
  intro k
  induction k with
  | zero => intro p j h1 h2; simp only [scF] at h2; omega
  | succ k ih =>
    intro p j h1 h2
    simp only [scF] at h2
    split at h2
    · by_cases e : j = p
      · subst e; assumption
      · exact ih (p + 1) j (by omega) h2
    · omega
theorem scF_end {c : Int → Bool} {n : Int} (hc : ∀ j, n ≤ j → c j = false) : ∀ (k : Nat) (p : Int), n ≤ p + k → c (scF c k p) = false := by
  intro k
  induction k with
  | zero => intro p h; simp only [scF]; exact hc p (by omega)
  | succ k ih =>
    intro p h
    simp only [scF]
    split
    · exact ih (p + 1) (by omega)
    · rename_i h1; simpa using h1
theorem isB_n {S : St} {n : Int} : ∀ j, n ≤ j → isB S n j = false := fun j h => by unfold isB; simp; intro h2; omega
theorem isL_n {S : St} {n : Int} : ∀ j, n ≤ j → isL S n j = false := fun j h => by unfold isL; simp; intro h2; omega
theorem isD_n {S : St} {n : Int} : ∀ j, n ≤ j → isD S n j = false := fun j h => by unfold isD; simp; intro h2; omega
theorem sk_rng {S : St} {n p : Int} (h : p ≤ n) : p ≤ sk S n p ∧ sk S n p ≤ n := by have := scF_rng (c := isB S n) (n - p).toNat p; unfold sk; omega
theorem we_rng {S : St} {n p : Int} (h : p ≤ n) : p ≤ we S n p ∧ we S n p ≤ n := by have := scF_rng (c := isL S n) (n - p).toNat p; unfold we; omega
theorem dg_rng {S : St} {n p : Int} (h : p ≤ n) : p ≤ dg S n p ∧ dg S n p ≤ n := by have := scF_rng (c := isD S n) (n - p).toNat p; unfold dg; omega
theorem sk_end {S : St} {n p : Int} : isB S n (sk S n p) = false := scF_end isB_n _ _ (by omega)
theorem sk_self {S : St} {n p : Int} (h : isB S n p = false) : sk S n p = p := by
  unfold sk
  cases (n - p).toNat with
  | zero => rfl
  | succ k => simp [scF, h]
theorem nvF_rng {S : St} : ∀ (k : Nat) (p v : Int), (∀ j, p ≤ j → j < p + k → 48 ≤ S 1 j ∧ S 1 j ≤ 57) → 0 ≤ v → v ≤ 100000 → 0 ≤ nvF S k p v ∧ nvF S k p v ≤ 100000 := by
  intro k
  induction k with
  | zero => intro p v _ h1 h2; simp [nvF]; omega
  | succ k ih =>
    intro p v h h1 h2
    have h3 := h p (by omega) (by omega)
    simp only [nvF]
    exact ih (p + 1) _ (fun j a b => h j (by omega) (by omega)) (by omega) (by omega)
/-- the reader's place and the token's first byte -/
def txm (M : Mem) (p f : Int) : Mem := po (po M 2 2 p) 2 3 f
/-- a fault was told, and nothing but the text has changed -/
def FLD (M M' : Mem) (k x : Int) : Prop := (∀ a, a ≠ 2 → M' a = M a) ∧ pk M' 2 4 = k ∧ pk M' 2 5 = x
section C43
variable {Q : MOut → MHp → Prop} {X : Nat × (Nat → Int32)} {s : Bool × Bool} {dh dl t : Nat} {M : Mem} {S : St} {p f n : Int}
theorem tx_1 : pk (txm M p f) 2 1 = pk M 2 1 := by unfold txm; rw [pk_po_ix (by decide), pk_po_ix (by decide)]
theorem tx_2 : pk (txm M p f) 2 2 = wz p := by unfold txm; rw [pk_po_ix (by decide), pk_po_eq]
theorem tx_3 : pk (txm M p f) 2 3 = wz f := by unfold txm; rw [pk_po_eq]
theorem tx_4 : pk (txm M p f) 2 4 = pk M 2 4 := by unfold txm; rw [pk_po_ix (by decide), pk_po_ix (by decide)]
theorem tx_5 : pk (txm M p f) 2 5 = pk M 2 5 := by unfold txm; rw [pk_po_ix (by decide), pk_po_ix (by decide)]
theorem tx_o {a : Nat} {i : Int} (h : a ≠ 2) : pk (txm M p f) a i = pk M a i := by unfold txm; rw [pk_po_ne h, pk_po_ne h]
theorem tx_p2 {x : Int} : po (txm M p f) 2 2 x = txm M x f := by
  funext e j
  simp only [txm, po]
  grind
theorem tx_p3 {x : Int} : po (txm M p f) 2 3 x = txm M p x := by
  funext e j
  simp only [txm, po]
  grind
theorem tx_po {a : Nat} {i x : Int} (h : a ≠ 2) : po (txm M p f) a i x = txm (po M a i x) p f := by
  funext e j
  simp only [txm, po]
  grind
theorem tx_fl {a : Nat} {i m x : Int} (h : a ≠ 2) : flm (txm M p f) a i m x = txm (flm M a i m x) p f := by
  funext e j
  simp only [txm, po, flm]
  grind
theorem tx_tx {p' f' : Int} : txm (txm M p f) p' f' = txm M p' f' := by
  funext e j
  simp only [txm, po]
  grind
theorem RC.tx (h : RC S M) : RC S (txm M p f) := ⟨fun a ha i => by rw [tx_o (by rintro rfl; cases ha)]; exact h.1 a ha i, by rw [tx_5]; exact h.2⟩
theorem FLD.tx {k x : Int} {M' : Mem} (h : FLD (txm M p f) M' k x) : FLD M M' k x := ⟨fun a ha => by
  rw [h.1 a ha]
  funext j
  unfold txm
  rw [po_ne (fun h => ha h.1), po_ne (fun h => ha h.1)], h.2⟩
theorem C75 (hC : RC S M) (hn : pk M 2 1 = n) (h0 : 0 ≤ p) (h1 : p ≤ n) (h2 : n ≤ 600) : CL 75 [.ref 2] (mkh X s dh dl t (txm M p f)) Q ↔ Q (.inl none) (mkh X s dh dl t (txm M (sk S n p) (sk S n p))) := by
  have key : ∀ (k : Nat) (u : Int), 0 ≤ u → u ≤ n → (n - u).toNat = k → (EX 75 (sx 75 0) [.ref 2] [] (mkh X s dh dl t (txm M u f)) Q ↔ Q (.inl none) (mkh X s dh dl t (txm M (scF (isB S n) k u) (scF (isB S n) k u)))) := by
    intro k
    induction k with
    | zero =>
      intro u a b c
      have e1 : n ≤ u := by omega
      rw [s_75_0]
      simp (disch := omega) only [↓x_al_0, ↓gi_2_2, ↓gi_2_1, ↓x_ge, ↓gr_2_0, ↓x_c, ↓x_ne, ↓x_dup_i, ↓x_dup_r, ↓x_iadd, ↓pi_2_2, ↓x_go, ↓pi_2_3, ↓x_rt, ↓ld_1, ↓n_75, ↓s_75_38, ↓pv_i, ↓pv_r, ↓pv_0, ↓pv_l, wz_pk, wz_ti, wz_wz, vI_wz, wz_id, wz_0, List.length_cons, List.length_nil, ↓reduceIte, true_and, and_true, Int.reduceLE, Int.reduceLT, Int.reduceEq, not_true_eq_false, not_false_eq_true, false_or, or_false, true_or, or_true, ite_not, Int.reduceNeg, Int32.reduceToInt, Nat.reduceAdd, Nat.reduceLeDiff, Nat.reduceLT, Nat.reduceEqDiff, Int.reduceAdd, Int.reduceSub, Int.reduceMul, Nat.zero_le, pk_po_ne, pk_po_eq, pk_po_ix, rI, ne_eq, tx_1, tx_2, tx_3, tx_p2, tx_p3, hn, e1, if_true]
      exact Iff.rfl
    | succ k ih =>
      intro u a b c
      have e1 : ¬ n ≤ u := by omega
      have e2 : u < 600 := by omega
      have e4 := hC.at 1 rfl u
      have e5 := hC.wzz 1 rfl u
      rw [s_75_0]
      simp only [scF]
      by_cases e3 : S 1 u = 32
      · rw [if_pos (by unfold isB; simp [e3]; omega)]
        have ih2 := ih (u + 1) (by omega) (by omega) (by omega)
        simp (disch := omega) only [↓x_al_0, ↓gi_2_2, ↓gi_2_1, ↓x_ge, ↓gr_2_0, ↓x_c, ↓x_ne, ↓x_dup_i, ↓x_dup_r, ↓x_iadd, ↓pi_2_2, ↓x_go, ↓pi_2_3, ↓x_rt, ↓ld_1, ↓n_75, ↓s_75_38, ↓pv_i, ↓pv_r, ↓pv_0, ↓pv_l, wz_pk, wz_ti, wz_wz, vI_wz, wz_id, wz_0, List.length_cons, List.length_nil, ↓reduceIte, true_and, and_true, Int.reduceLE, Int.reduceLT, Int.reduceEq, not_true_eq_false, not_false_eq_true, false_or, or_false, true_or, or_true, ite_not, Int.reduceNeg, Int32.reduceToInt, Nat.reduceAdd, Nat.reduceLeDiff, Nat.reduceLT, Nat.reduceEqDiff, Int.reduceAdd, Int.reduceSub, Int.reduceMul, Nat.zero_le, pk_po_ne, pk_po_eq, pk_po_ix, rI, ne_eq, tx_1, tx_2, tx_3, tx_p2, tx_p3, tx_o, hn, e1, e2, a, e4, e5, e3, if_false, ↓ld_1]
        exact ih2
      · rw [if_neg (by unfold isB; simp [e3])]
        simp (disch := omega) only [↓x_al_0, ↓gi_2_2, ↓gi_2_1, ↓x_ge, ↓gr_2_0, ↓x_c, ↓x_ne, ↓x_dup_i, ↓x_dup_r, ↓x_iadd, ↓pi_2_2, ↓x_go, ↓pi_2_3, ↓x_rt, ↓ld_1, ↓n_75, ↓s_75_38, ↓pv_i, ↓pv_r, ↓pv_0, ↓pv_l, wz_pk, wz_ti, wz_wz, vI_wz, wz_id, wz_0, List.length_cons, List.length_nil, ↓reduceIte, true_and, and_true, Int.reduceLE, Int.reduceLT, Int.reduceEq, not_true_eq_false, not_false_eq_true, false_or, or_false, true_or, or_true, ite_not, Int.reduceNeg, Int32.reduceToInt, Nat.reduceAdd, Nat.reduceLeDiff, Nat.reduceLT, Nat.reduceEqDiff, Int.reduceAdd, Int.reduceSub, Int.reduceMul, Nat.zero_le, pk_po_ne, pk_po_eq, pk_po_ix, rI, ne_eq, tx_1, tx_2, tx_3, tx_p2, tx_p3, tx_o, hn, e1, e2, a, e4, e5, e3, if_false, ↓ld_1]
  rw [n_75, key _ p h0 h1 rfl]
  exact Iff.rfl
theorem C69 (hC : RC S M) (hn : pk M 2 1 = n) (h0 : 0 ≤ p) (h1 : p ≤ n) (h2 : n ≤ 600) : CL 69 [.ref 2] (mkh X s dh dl t (txm M p f)) Q ↔ Q (rI (bi (decide (n ≤ sk S n p)))) (mkh X s dh dl t (txm M (sk S n p) (sk S n p))) := by
  have hs := sk_rng (S := S) h1
  simp (disch := omega) only [↓x_al_0, ↓c_75, ↓gi_2_2, ↓gi_2_1, ↓x_lt, ↓x_c, ↓x_go, ↓x_irz, ↓n_69, ↓s_69_0, ↓s_69_19, ↓s_69_20, ↓bk_v, ↓bk_n, ↓bk_r, ↓pv_i, ↓pv_r, ↓pv_0, ↓pv_l, wz_pk, wz_ti, wz_wz, vI_wz, wz_id, wz_0, List.length_cons, List.length_nil, ↓reduceIte, true_and, and_true, Int.reduceLE, Int.reduceLT, Int.reduceEq, not_true_eq_false, not_false_eq_true, false_or, or_false, true_or, or_true, ite_not, Int.reduceNeg, Int32.reduceToInt, Nat.reduceAdd, Nat.reduceLeDiff, Nat.reduceLT, Nat.reduceEqDiff, Int.reduceAdd, Int.reduceSub, Int.reduceMul, Nat.zero_le, pk_po_ne, pk_po_eq, pk_po_ix, rI, ne_eq, ↓C75 hC hn h0 h1 h2, tx_1, tx_2, hn]
  grind [bi]
theorem C70 (hC : RC S M) (hn : pk M 2 1 = n) (h0 : 0 ≤ p) (h1 : p ≤ n) (h2 : n ≤ 600) : CL 70 [.ref 2] (mkh X s dh dl t (txm M p f)) Q ↔ Q (.inl none) (mkh X s dh dl t (txm M (we S n (sk S n p)) (sk S n p))) := by
  have hs := sk_rng (S := S) h1
  have key : ∀ (k : Nat) (u : Int), 0 ≤ u → u ≤ n → (n - u).toNat = k → (EX 70 (sx 70 4) [.ref 2] [] (mkh X s dh dl t (txm M u (sk S n p))) Q ↔ Q (.inl none) (mkh X s dh dl t (txm M (scF (isL S n) k u) (sk S n p)))) := by
    intro k
    induction k with
    | zero =>
      intro u a b c
      have e1 : n ≤ u := by omega
      rw [s_70_4]
      simp (disch := omega) only [↓x_al_0, ↓c_75, ↓gi_2_2, ↓gi_2_1, ↓x_ge, ↓gr_2_0, ↓x_c, ↓x_lt, ↓x_gt, ↓x_dup_i, ↓x_dup_r, ↓x_iadd, ↓pi_2_2, ↓x_go, ↓x_rt, ↓ld_1, ↓n_70, ↓s_70_0, ↓s_70_56, ↓bk_v, ↓bk_n, ↓bk_r, ↓pv_i, ↓pv_r, ↓pv_0, ↓pv_l, wz_pk, wz_ti, wz_wz, vI_wz, wz_id, wz_0, List.length_cons, List.length_nil, ↓reduceIte, true_and, and_true, Int.reduceLE, Int.reduceLT, Int.reduceEq, not_true_eq_false, not_false_eq_true, false_or, or_false, true_or, or_true, ite_not, Int.reduceNeg, Int32.reduceToInt, Nat.reduceAdd, Nat.reduceLeDiff, Nat.reduceLT, Nat.reduceEqDiff, Int.reduceAdd, Int.reduceSub, Int.reduceMul, Nat.zero_le, pk_po_ne, pk_po_eq, pk_po_ix, rI, ne_eq, tx_1, tx_2, hn, e1, if_true]
      exact Iff.rfl
    | succ k ih =>
      intro u a b c
      have e1 : ¬ n ≤ u := by omega
      have e2 : u < 600 := by omega
      have e4 := hC.at 1 rfl u
      have e5 := hC.wzz 1 rfl u
      rw [s_70_4]
      simp only [scF]
      by_cases e3 : 97 ≤ S 1 u
      · by_cases e6 : S 1 u ≤ 122
        · rw [if_pos (by unfold isL; simp [e3, e6]; omega)]
          have ih2 := ih (u + 1) (by omega) (by omega) (by omega)
          have e7 : ¬ S 1 u < 97 := by omega
          have e8 : ¬ 122 < S 1 u := by omega
          simp (disch := omega) only [↓x_al_0, ↓c_75, ↓gi_2_2, ↓gi_2_1, ↓x_ge, ↓gr_2_0, ↓x_c, ↓x_lt, ↓x_gt, ↓x_dup_i, ↓x_dup_r, ↓x_iadd, ↓pi_2_2, ↓x_go, ↓x_rt, ↓ld_1, ↓n_70, ↓s_70_0, ↓s_70_56, ↓bk_v, ↓bk_n, ↓bk_r, ↓pv_i, ↓pv_r, ↓pv_0, ↓pv_l, wz_pk, wz_ti, wz_wz, vI_wz, wz_id, wz_0, List.length_cons, List.length_nil, ↓reduceIte, true_and, and_true, Int.reduceLE, Int.reduceLT, Int.reduceEq, not_true_eq_false, not_false_eq_true, false_or, or_false, true_or, or_true, ite_not, Int.reduceNeg, Int32.reduceToInt, Nat.reduceAdd, Nat.reduceLeDiff, Nat.reduceLT, Nat.reduceEqDiff, Int.reduceAdd, Int.reduceSub, Int.reduceMul, Nat.zero_le, pk_po_ne, pk_po_eq, pk_po_ix, rI, ne_eq, tx_1, tx_2, tx_p2, tx_o, hn, e1, e2, a, e4, e5, e7, e8, if_false, ↓ld_1]
          exact ih2
        · rw [if_neg (by unfold isL; simp [e6])]
          have e7 : ¬ S 1 u < 97 := by omega
          have e8 : 122 < S 1 u := by omega
          simp (disch := omega) only [↓x_al_0, ↓c_75, ↓gi_2_2, ↓gi_2_1, ↓x_ge, ↓gr_2_0, ↓x_c, ↓x_lt, ↓x_gt, ↓x_dup_i, ↓x_dup_r, ↓x_iadd, ↓pi_2_2, ↓x_go, ↓x_rt, ↓ld_1, ↓n_70, ↓s_70_0, ↓s_70_56, ↓bk_v, ↓bk_n, ↓bk_r, ↓pv_i, ↓pv_r, ↓pv_0, ↓pv_l, wz_pk, wz_ti, wz_wz, vI_wz, wz_id, wz_0, List.length_cons, List.length_nil, ↓reduceIte, true_and, and_true, Int.reduceLE, Int.reduceLT, Int.reduceEq, not_true_eq_false, not_false_eq_true, false_or, or_false, true_or, or_true, ite_not, Int.reduceNeg, Int32.reduceToInt, Nat.reduceAdd, Nat.reduceLeDiff, Nat.reduceLT, Nat.reduceEqDiff, Int.reduceAdd, Int.reduceSub, Int.reduceMul, Nat.zero_le, pk_po_ne, pk_po_eq, pk_po_ix, rI, ne_eq, tx_1, tx_2, tx_p2, tx_o, hn, e1, e2, a, e4, e5, e7, e8, if_false, if_true, ↓ld_1]
      · rw [if_neg (by unfold isL; simp [e3])]
        have e7 : S 1 u < 97 := by omega
        simp (disch := omega) only [↓x_al_0, ↓c_75, ↓gi_2_2, ↓gi_2_1, ↓x_ge, ↓gr_2_0, ↓x_c, ↓x_lt, ↓x_gt, ↓x_dup_i, ↓x_dup_r, ↓x_iadd, ↓pi_2_2, ↓x_go, ↓x_rt, ↓ld_1, ↓n_70, ↓s_70_0, ↓s_70_56, ↓bk_v, ↓bk_n, ↓bk_r, ↓pv_i, ↓pv_r, ↓pv_0, ↓pv_l, wz_pk, wz_ti, wz_wz, vI_wz, wz_id, wz_0, List.length_cons, List.length_nil, ↓reduceIte, true_and, and_true, Int.reduceLE, Int.reduceLT, Int.reduceEq, not_true_eq_false, not_false_eq_true, false_or, or_false, true_or, or_true, ite_not, Int.reduceNeg, Int32.reduceToInt, Nat.reduceAdd, Nat.reduceLeDiff, Nat.reduceLT, Nat.reduceEqDiff, Int.reduceAdd, Int.reduceSub, Int.reduceMul, Nat.zero_le, pk_po_ne, pk_po_eq, pk_po_ix, rI, ne_eq, tx_1, tx_2, tx_p2, tx_o, hn, e1, e2, a, e4, e5, e7, if_false, if_true, ↓ld_1]
  have k0 := key _ (sk S n p) (by omega) hs.2 rfl
  simp (disch := omega) only [↓x_al_0, ↓c_75, ↓gi_2_2, ↓gi_2_1, ↓x_ge, ↓gr_2_0, ↓x_c, ↓x_lt, ↓x_gt, ↓x_dup_i, ↓x_dup_r, ↓x_iadd, ↓pi_2_2, ↓x_go, ↓x_rt, ↓ld_1, ↓n_70, ↓s_70_0, ↓s_70_56, ↓bk_v, ↓bk_n, ↓bk_r, ↓pv_i, ↓pv_r, ↓pv_0, ↓pv_l, wz_pk, wz_ti, wz_wz, vI_wz, wz_id, wz_0, List.length_cons, List.length_nil, ↓reduceIte, true_and, and_true, Int.reduceLE, Int.reduceLT, Int.reduceEq, not_true_eq_false, not_false_eq_true, false_or, or_false, true_or, or_true, ite_not, Int.reduceNeg, Int32.reduceToInt, Nat.reduceAdd, Nat.reduceLeDiff, Nat.reduceLT, Nat.reduceEqDiff, Int.reduceAdd, Int.reduceSub, Int.reduceMul, Nat.zero_le, pk_po_ne, pk_po_eq, pk_po_ix, rI, ne_eq, ↓C75 hC hn h0 h1 h2]
  exact k0
theorem C68 {k : Int} (hk : wz k = k) (hf : wz f = f) (hQ : ∀ M', FLD M M' k f → Q (rI 0) (mkh X s dh dl t M')) : CL 68 [.ref 2, vI k] (mkh X s dh dl t (txm M p f)) Q := by
  simp (disch := omega) only [↓x_al_0, ↓x_il_1, ↓pi_2_4, ↓gi_2_3, ↓pi_2_5, ↓x_c, ↓x_irz, ↓n_68, ↓s_68_0, ↓pv_i, ↓pv_r, ↓pv_0, ↓pv_l, wz_pk, wz_ti, wz_wz, vI_wz, wz_id, wz_0, List.length_cons, List.length_nil, ↓reduceIte, true_and, and_true, Int.reduceLE, Int.reduceLT, Int.reduceEq, not_true_eq_false, not_false_eq_true, false_or, or_false, true_or, or_true, ite_not, Int.reduceNeg, Int32.reduceToInt, Nat.reduceAdd, Nat.reduceLeDiff, Nat.reduceLT, Nat.reduceEqDiff, Int.reduceAdd, Int.reduceSub, Int.reduceMul, Nat.zero_le, pk_po_ne, pk_po_eq, pk_po_ix, rI, ne_eq, tx_3, hf]
  apply hQ
  refine ⟨fun a ha => ?_, ?_, ?_⟩
  · funext j
    simp only [txm, po, ha, false_and, if_false]
  · rw [pk_po_ix (by decide), pk_po_eq, hk]
  · rw [pk_po_eq, hf]
theorem C72 {c : Int} (hC : RC S M) (hn : pk M 2 1 = n) (h0 : 0 ≤ p) (h1 : p ≤ n) (h2 : n ≤ 600) (hc : wz c = c) : CL 72 [.ref 2, vI c] (mkh X s dh dl t (txm M p f)) Q ↔ if sk S n p < n ∧ S 1 (sk S n p) = c then Q (rI 1) (mkh X s dh dl t (txm M (sk S n p + 1) (sk S n p))) else Q (rI 0) (mkh X s dh dl t (txm M (sk S n p) (sk S n p))) := by
  have hs := sk_rng (S := S) h1
  have e4 := hC.at 1 rfl (sk S n p)
  have e5 := hC.wzz 1 rfl (sk S n p)
  simp (disch := omega) only [↓x_al_0, ↓c_75, ↓gi_2_2, ↓gi_2_1, ↓x_ge, ↓gr_2_0, ↓x_il_1, ↓x_eq, ↓x_c, ↓x_irz, ↓x_dup_i, ↓x_dup_r, ↓x_iadd, ↓pi_2_2, ↓ld_1, ↓n_72, ↓s_72_0, ↓s_72_28, ↓s_72_30, ↓bk_v, ↓bk_n, ↓bk_r, ↓pv_i, ↓pv_r, ↓pv_0, ↓pv_l, wz_pk, wz_ti, wz_wz, vI_wz, wz_id, wz_0, List.length_cons, List.length_nil, ↓reduceIte, true_and, and_true, Int.reduceLE, Int.reduceLT, Int.reduceEq, not_true_eq_false, not_false_eq_true, false_or, or_false, true_or, or_true, ite_not, Int.reduceNeg, Int32.reduceToInt, Nat.reduceAdd, Nat.reduceLeDiff, Nat.reduceLT, Nat.reduceEqDiff, Int.reduceAdd, Int.reduceSub, Int.reduceMul, Nat.zero_le, pk_po_ne, pk_po_eq, pk_po_ix, rI, ne_eq, ↓C75 hC hn h0 h1 h2, tx_1, tx_2, tx_p2, tx_o, hn, ↓ld_1, e4, e5, hc]
  grind
theorem C73 {c : Int} (hC : RC S M) (hn : pk M 2 1 = n) (h0 : 0 ≤ p) (h1 : p ≤ n) (h2 : n ≤ 600) (hc : wz c = c)
    (hq : sk S n p < n ∧ S 1 (sk S n p) = c → Q (rI 1) (mkh X s dh dl t (txm M (sk S n p + 1) (sk S n p)))) (hx : ¬ (sk S n p < n ∧ S 1 (sk S n p) = c) → ∀ M', FLD M M' 1 (sk S n p) → Q (rI 0) (mkh X s dh dl t M')) : CL 73 [.ref 2, vI c] (mkh X s dh dl t (txm M p f)) Q := by
  have hs := sk_rng (S := S) h1
  simp (disch := omega) only [↓x_al_0, ↓x_il_1, ↓c_72, ↓x_ne0, ↓x_c, ↓c_68, ↓x_eq0, ↓x_go, ↓x_irz, ↓n_73, ↓s_73_0, ↓s_73_16, ↓s_73_20, ↓s_73_21, ↓bk_v, ↓bk_n, ↓bk_r, ↓pv_i, ↓pv_r, ↓pv_0, ↓pv_l, wz_pk, wz_ti, wz_wz, vI_wz, wz_id, wz_0, List.length_cons, List.length_nil, ↓reduceIte, true_and, and_true, Int.reduceLE, Int.reduceLT, Int.reduceEq, not_true_eq_false, not_false_eq_true, false_or, or_false, true_or, or_true, ite_not, Int.reduceNeg, Int32.reduceToInt, Nat.reduceAdd, Nat.reduceLeDiff, Nat.reduceLT, Nat.reduceEqDiff, Int.reduceAdd, Int.reduceSub, Int.reduceMul, Nat.zero_le, pk_po_ne, pk_po_eq, pk_po_ix, rI, ne_eq, ↓C72 hC hn h0 h1 h2 hc]
  split
  · rename_i h
    exact hq h
  · rename_i h
    refine C68 rfl (wz_id (by omega) (by omega)) ?_
    intro M' hM
    have := hx h M' hM
    simp (disch := omega) only [↓x_al_0, ↓x_il_1, ↓c_72, ↓x_ne0, ↓x_c, ↓c_68, ↓x_eq0, ↓x_go, ↓x_irz, ↓n_73, ↓s_73_0, ↓s_73_16, ↓s_73_20, ↓s_73_21, ↓bk_v, ↓bk_n, ↓bk_r, ↓pv_i, ↓pv_r, ↓pv_0, ↓pv_l, wz_pk, wz_ti, wz_wz, vI_wz, wz_id, wz_0, List.length_cons, List.length_nil, ↓reduceIte, true_and, and_true, Int.reduceLE, Int.reduceLT, Int.reduceEq, not_true_eq_false, not_false_eq_true, false_or, or_false, true_or, or_true, ite_not, Int.reduceNeg, Int32.reduceToInt, Nat.reduceAdd, Nat.reduceLeDiff, Nat.reduceLT, Nat.reduceEqDiff, Int.reduceAdd, Int.reduceSub, Int.reduceMul, Nat.zero_le, pk_po_ne, pk_po_eq, pk_po_ix, rI, ne_eq]
    exact this
theorem C74 {lo hi : Int} (hC : RC S M) (hn : pk M 2 1 = n) (h0 : 0 ≤ p) (h1 : p ≤ n) (h2 : n ≤ 600) (hlo : wz lo = lo) (hhi : wz hi = hi)
    (hq : ∀ e v, rdN S n lo hi p = (0, e, v) → Q (rI v) (mkh X s dh dl t (txm M e (sk S n p)))) (hx : ∀ k x, ¬ k = 0 → rdN S n lo hi p = (k, x, 0) → ∀ M', FLD M M' k x → Q (rI (-1)) (mkh X s dh dl t M')) : CL 74 [.ref 2, vI lo, vI hi] (mkh X s dh dl t (txm M p f)) Q := by
  have hs := sk_rng (S := S) h1
  have hd := dg_rng (S := S) hs.2
  have hall := fun j a b => scF_all (c := isD S n) (n - sk S n p).toNat (sk S n p) j a b
  have hdig : ∀ j, sk S n p ≤ j → j < dg S n (sk S n p) → 48 ≤ S 1 j ∧ S 1 j ≤ 57 := by
    intro j a b
    have := hall j a b
    unfold isD at this
    simp at this
    omega
  have hnv := nvF_rng (S := S) (dg S n (sk S n p) - sk S n p).toNat (sk S n p) 0 (fun j a b => hdig j a (by omega)) (by omega) (by omega)
  have tail : EX 74 (sx 74 81) [.ref 2, vI lo, vI hi, vI (nv S (sk S n p) (dg S n (sk S n p)))] [] (mkh X s dh dl t (txm M (dg S n (sk S n p)) (sk S n p))) Q := by
    have wv : wz (nv S (sk S n p) (dg S n (sk S n p))) = nv S (sk S n p) (dg S n (sk S n p)) := wz_id (by unfold nv; omega) (by unfold nv; omega)
    rw [s_74_81]
    by_cases c1 : dg S n (sk S n p) = sk S n p
    · simp (disch := omega) only [↓x_al_0, ↓c_75, ↓x_c, ↓x_is_3, ↓gi_2_2, ↓gi_2_1, ↓x_ge, ↓gr_2_0, ↓x_lt, ↓x_gt, ↓x_il_3, ↓x_imul, ↓x_iadd, ↓x_isub, ↓x_mm0, ↓x_dup_i, ↓x_dup_r, ↓pi_2_2, ↓x_go, ↓gi_2_3, ↓x_ne, ↓c_68, ↓x_pop_i, ↓x_pop_r, ↓x_ir, ↓x_il_1, ↓x_il_2, ↓x_le, ↓ld_1, ↓n_74, ↓s_74_0, ↓s_74_81, ↓s_74_100, ↓s_74_110, ↓s_74_118, ↓bk_v, ↓bk_n, ↓bk_r, ↓pv_i, ↓pv_r, ↓pv_0, ↓pv_l, wz_pk, wz_ti, wz_wz, vI_wz, wz_id, wz_0, List.length_cons, List.length_nil, ↓reduceIte, true_and, and_true, Int.reduceLE, Int.reduceLT, Int.reduceEq, not_true_eq_false, not_false_eq_true, false_or, or_false, true_or, or_true, ite_not, Int.reduceNeg, Int32.reduceToInt, Nat.reduceAdd, Nat.reduceLeDiff, Nat.reduceLT, Nat.reduceEqDiff, Int.reduceAdd, Int.reduceSub, Int.reduceMul, Nat.zero_le, pk_po_ne, pk_po_eq, pk_po_ix, rI, ne_eq, tx_2, tx_3, c1]
      refine C68 rfl (wz_id (by omega) (by omega)) ?_
      intro M' hM
      have e := hx 1 (sk S n p) (by decide) (by rw [rdN, if_pos c1]) M' hM
      simp (disch := omega) only [↓x_al_0, ↓c_75, ↓x_c, ↓x_is_3, ↓gi_2_2, ↓gi_2_1, ↓x_ge, ↓gr_2_0, ↓x_lt, ↓x_gt, ↓x_il_3, ↓x_imul, ↓x_iadd, ↓x_isub, ↓x_mm0, ↓x_dup_i, ↓x_dup_r, ↓pi_2_2, ↓x_go, ↓gi_2_3, ↓x_ne, ↓c_68, ↓x_pop_i, ↓x_pop_r, ↓x_ir, ↓x_il_1, ↓x_il_2, ↓x_le, ↓ld_1, ↓n_74, ↓s_74_0, ↓s_74_81, ↓s_74_100, ↓s_74_110, ↓s_74_118, ↓bk_v, ↓bk_n, ↓bk_r, ↓pv_i, ↓pv_r, ↓pv_0, ↓pv_l, wz_pk, wz_ti, wz_wz, vI_wz, wz_id, wz_0, List.length_cons, List.length_nil, ↓reduceIte, true_and, and_true, Int.reduceLE, Int.reduceLT, Int.reduceEq, not_true_eq_false, not_false_eq_true, false_or, or_false, true_or, or_true, ite_not, Int.reduceNeg, Int32.reduceToInt, Nat.reduceAdd, Nat.reduceLeDiff, Nat.reduceLT, Nat.reduceEqDiff, Int.reduceAdd, Int.reduceSub, Int.reduceMul, Nat.zero_le, pk_po_ne, pk_po_eq, pk_po_ix, rI, ne_eq]
      exact e
    · by_cases c2 : nv S (sk S n p) (dg S n (sk S n p)) < lo ∨ hi < nv S (sk S n p) (dg S n (sk S n p))
      · have fin : CL 68 [.ref 2, vI 2] (mkh X s dh dl t (txm M (dg S n (sk S n p)) (sk S n p))) (bk 74 112 [(115, I_pop), (116, I_c 0 0 0 (-1)), (117, I_ir 0), (118, I_il 3 1), (119, I_ir 0)] [.ref 2, vI lo, vI hi, vI (nv S (sk S n p) (dg S n (sk S n p)))] [] Q) := by
          refine C68 rfl (wz_id (by omega) (by omega)) ?_
          intro M' hM
          have e := hx 2 (sk S n p) (by decide) (by rw [rdN, if_neg c1, if_pos c2]) M' hM
          simp (disch := omega) only [↓x_al_0, ↓c_75, ↓x_c, ↓x_is_3, ↓gi_2_2, ↓gi_2_1, ↓x_ge, ↓gr_2_0, ↓x_lt, ↓x_gt, ↓x_il_3, ↓x_imul, ↓x_iadd, ↓x_isub, ↓x_mm0, ↓x_dup_i, ↓x_dup_r, ↓pi_2_2, ↓x_go, ↓gi_2_3, ↓x_ne, ↓c_68, ↓x_pop_i, ↓x_pop_r, ↓x_ir, ↓x_il_1, ↓x_il_2, ↓x_le, ↓ld_1, ↓n_74, ↓s_74_0, ↓s_74_81, ↓s_74_100, ↓s_74_110, ↓s_74_118, ↓bk_v, ↓bk_n, ↓bk_r, ↓pv_i, ↓pv_r, ↓pv_0, ↓pv_l, wz_pk, wz_ti, wz_wz, vI_wz, wz_id, wz_0, List.length_cons, List.length_nil, ↓reduceIte, true_and, and_true, Int.reduceLE, Int.reduceLT, Int.reduceEq, not_true_eq_false, not_false_eq_true, false_or, or_false, true_or, or_true, ite_not, Int.reduceNeg, Int32.reduceToInt, Nat.reduceAdd, Nat.reduceLeDiff, Nat.reduceLT, Nat.reduceEqDiff, Int.reduceAdd, Int.reduceSub, Int.reduceMul, Nat.zero_le, pk_po_ne, pk_po_eq, pk_po_ix, rI, ne_eq]
          exact e
        by_cases c3 : nv S (sk S n p) (dg S n (sk S n p)) < lo
        · simp (disch := omega) only [↓x_al_0, ↓c_75, ↓x_c, ↓x_is_3, ↓gi_2_2, ↓gi_2_1, ↓x_ge, ↓gr_2_0, ↓x_lt, ↓x_gt, ↓x_il_3, ↓x_imul, ↓x_iadd, ↓x_isub, ↓x_mm0, ↓x_dup_i, ↓x_dup_r, ↓pi_2_2, ↓x_go, ↓gi_2_3, ↓x_ne, ↓c_68, ↓x_pop_i, ↓x_pop_r, ↓x_ir, ↓x_il_1, ↓x_il_2, ↓x_le, ↓ld_1, ↓n_74, ↓s_74_0, ↓s_74_81, ↓s_74_100, ↓s_74_110, ↓s_74_118, ↓bk_v, ↓bk_n, ↓bk_r, ↓pv_i, ↓pv_r, ↓pv_0, ↓pv_l, wz_pk, wz_ti, wz_wz, vI_wz, wz_id, wz_0, List.length_cons, List.length_nil, ↓reduceIte, true_and, and_true, Int.reduceLE, Int.reduceLT, Int.reduceEq, not_true_eq_false, not_false_eq_true, false_or, or_false, true_or, or_true, ite_not, Int.reduceNeg, Int32.reduceToInt, Nat.reduceAdd, Nat.reduceLeDiff, Nat.reduceLT, Nat.reduceEqDiff, Int.reduceAdd, Int.reduceSub, Int.reduceMul, Nat.zero_le, pk_po_ne, pk_po_eq, pk_po_ix, rI, ne_eq, tx_2, tx_3, c1, if_false, wv, hlo, hhi, c3, if_true]
          exact fin
        · have c4 : ¬ nv S (sk S n p) (dg S n (sk S n p)) ≤ hi := by omega
          simp (disch := omega) only [↓x_al_0, ↓c_75, ↓x_c, ↓x_is_3, ↓gi_2_2, ↓gi_2_1, ↓x_ge, ↓gr_2_0, ↓x_lt, ↓x_gt, ↓x_il_3, ↓x_imul, ↓x_iadd, ↓x_isub, ↓x_mm0, ↓x_dup_i, ↓x_dup_r, ↓pi_2_2, ↓x_go, ↓gi_2_3, ↓x_ne, ↓c_68, ↓x_pop_i, ↓x_pop_r, ↓x_ir, ↓x_il_1, ↓x_il_2, ↓x_le, ↓ld_1, ↓n_74, ↓s_74_0, ↓s_74_81, ↓s_74_100, ↓s_74_110, ↓s_74_118, ↓bk_v, ↓bk_n, ↓bk_r, ↓pv_i, ↓pv_r, ↓pv_0, ↓pv_l, wz_pk, wz_ti, wz_wz, vI_wz, wz_id, wz_0, List.length_cons, List.length_nil, ↓reduceIte, true_and, and_true, Int.reduceLE, Int.reduceLT, Int.reduceEq, not_true_eq_false, not_false_eq_true, false_or, or_false, true_or, or_true, ite_not, Int.reduceNeg, Int32.reduceToInt, Nat.reduceAdd, Nat.reduceLeDiff, Nat.reduceLT, Nat.reduceEqDiff, Int.reduceAdd, Int.reduceSub, Int.reduceMul, Nat.zero_le, pk_po_ne, pk_po_eq, pk_po_ix, rI, ne_eq, tx_2, tx_3, c1, if_false, wv, hlo, hhi, c3, c4, if_true]
          exact fin
      · have e := hq _ _ (by rw [rdN, if_neg c1, if_neg c2])
        have c3 : ¬ nv S (sk S n p) (dg S n (sk S n p)) < lo := by omega
        have c4 : nv S (sk S n p) (dg S n (sk S n p)) ≤ hi := by omega
        simp (disch := omega) only [↓x_al_0, ↓c_75, ↓x_c, ↓x_is_3, ↓gi_2_2, ↓gi_2_1, ↓x_ge, ↓gr_2_0, ↓x_lt, ↓x_gt, ↓x_il_3, ↓x_imul, ↓x_iadd, ↓x_isub, ↓x_mm0, ↓x_dup_i, ↓x_dup_r, ↓pi_2_2, ↓x_go, ↓gi_2_3, ↓x_ne, ↓c_68, ↓x_pop_i, ↓x_pop_r, ↓x_ir, ↓x_il_1, ↓x_il_2, ↓x_le, ↓ld_1, ↓n_74, ↓s_74_0, ↓s_74_81, ↓s_74_100, ↓s_74_110, ↓s_74_118, ↓bk_v, ↓bk_n, ↓bk_r, ↓pv_i, ↓pv_r, ↓pv_0, ↓pv_l, wz_pk, wz_ti, wz_wz, vI_wz, wz_id, wz_0, List.length_cons, List.length_nil, ↓reduceIte, true_and, and_true, Int.reduceLE, Int.reduceLT, Int.reduceEq, not_true_eq_false, not_false_eq_true, false_or, or_false, true_or, or_true, ite_not, Int.reduceNeg, Int32.reduceToInt, Nat.reduceAdd, Nat.reduceLeDiff, Nat.reduceLT, Nat.reduceEqDiff, Int.reduceAdd, Int.reduceSub, Int.reduceMul, Nat.zero_le, pk_po_ne, pk_po_eq, pk_po_ix, rI, ne_eq, tx_2, tx_3, c1, if_false, wv, hlo, hhi, c3, c4, if_true]
        exact e
  have key : ∀ (k : Nat) (u v : Int), sk S n p ≤ u → u ≤ n → 0 ≤ v → v ≤ 100000 → (n - u).toNat = k → scF (isD S n) k u = dg S n (sk S n p) → nvF S (dg S n (sk S n p) - u).toNat u v = nv S (sk S n p) (dg S n (sk S n p)) → EX 74 (sx 74 6) [.ref 2, vI lo, vI hi, vI v] [] (mkh X s dh dl t (txm M u (sk S n p))) Q := by
    intro k
    induction k with
    | zero =>
      intro u v a b c d g i j
      have e1 : n ≤ u := by omega
      simp only [scF] at i
      rw [← i, show (u - u).toNat = 0 by omega, nvF] at j
      have tl := tail
      rw [← i, ← j] at tl
      rw [s_74_6]
      simp (disch := omega) only [↓x_al_0, ↓c_75, ↓x_c, ↓x_is_3, ↓gi_2_2, ↓gi_2_1, ↓x_ge, ↓gr_2_0, ↓x_lt, ↓x_gt, ↓x_il_3, ↓x_imul, ↓x_iadd, ↓x_isub, ↓x_mm0, ↓x_dup_i, ↓x_dup_r, ↓pi_2_2, ↓x_go, ↓gi_2_3, ↓x_ne, ↓c_68, ↓x_pop_i, ↓x_pop_r, ↓x_ir, ↓x_il_1, ↓x_il_2, ↓x_le, ↓ld_1, ↓n_74, ↓s_74_0, ↓s_74_100, ↓s_74_110, ↓s_74_118, ↓bk_v, ↓bk_n, ↓bk_r, ↓pv_i, ↓pv_r, ↓pv_0, ↓pv_l, wz_pk, wz_ti, wz_wz, vI_wz, wz_id, wz_0, List.length_cons, List.length_nil, ↓reduceIte, true_and, and_true, Int.reduceLE, Int.reduceLT, Int.reduceEq, not_true_eq_false, not_false_eq_true, false_or, or_false, true_or, or_true, ite_not, Int.reduceNeg, Int32.reduceToInt, Nat.reduceAdd, Nat.reduceLeDiff, Nat.reduceLT, Nat.reduceEqDiff, Int.reduceAdd, Int.reduceSub, Int.reduceMul, Nat.zero_le, pk_po_ne, pk_po_eq, pk_po_ix, rI, ne_eq, tx_1, tx_2, hn, e1, if_true]
      exact tl
    | succ k ih =>
      intro u v a b c d g i j
      have e1 : ¬ n ≤ u := by omega
      have e2 : u < 600 := by omega
      have e0 : (0 : Int) ≤ u := by omega
      have e4 := hC.at 1 rfl u
      have e5 := hC.wzz 1 rfl u
      simp only [scF] at i
      rw [s_74_6]
      by_cases c1 : isD S n u = true
      · rw [if_pos c1] at i
        have c2 := c1
        unfold isD at c2
        simp only [decide_eq_true_eq] at c2
        have hu := scF_rng (c := isD S n) k (u + 1)
        have c3 : ¬ S 1 u < 48 := by omega
        have c4 : ¬ 57 < S 1 u := by omega
        have j2 : nvF S (dg S n (sk S n p) - (u + 1)).toNat (u + 1) (min 100000 (v * 10 + S 1 u - 48)) = nv S (sk S n p) (dg S n (sk S n p)) := by
          rw [← j, show (dg S n (sk S n p) - u).toNat = (dg S n (sk S n p) - (u + 1)).toNat + 1 by omega, nvF]
        have ih2 := ih (u + 1) (min 100000 (v * 10 + S 1 u - 48)) (by omega) (by omega) (by omega) (by omega) (by omega) i j2
        have w1 : wz (v * 10 + S 1 u - 48) = v * 10 + S 1 u - 48 := wz_id (by omega) (by omega)
        simp (disch := omega) only [↓x_al_0, ↓c_75, ↓x_c, ↓x_is_3, ↓gi_2_2, ↓gi_2_1, ↓x_ge, ↓gr_2_0, ↓x_lt, ↓x_gt, ↓x_il_3, ↓x_imul, ↓x_iadd, ↓x_isub, ↓x_mm0, ↓x_dup_i, ↓x_dup_r, ↓pi_2_2, ↓x_go, ↓gi_2_3, ↓x_ne, ↓c_68, ↓x_pop_i, ↓x_pop_r, ↓x_ir, ↓x_il_1, ↓x_il_2, ↓x_le, ↓ld_1, ↓n_74, ↓s_74_0, ↓s_74_100, ↓s_74_110, ↓s_74_118, ↓bk_v, ↓bk_n, ↓bk_r, ↓pv_i, ↓pv_r, ↓pv_0, ↓pv_l, wz_pk, wz_ti, wz_wz, vI_wz, wz_id, wz_0, List.length_cons, List.length_nil, ↓reduceIte, true_and, and_true, Int.reduceLE, Int.reduceLT, Int.reduceEq, not_true_eq_false, not_false_eq_true, false_or, or_false, true_or, or_true, ite_not, Int.reduceNeg, Int32.reduceToInt, Nat.reduceAdd, Nat.reduceLeDiff, Nat.reduceLT, Nat.reduceEqDiff, Int.reduceAdd, Int.reduceSub, Int.reduceMul, Nat.zero_le, pk_po_ne, pk_po_eq, pk_po_ix, rI, ne_eq, tx_1, tx_2, tx_p2, tx_o, hn, e1, e2, e0, if_false, e4, e5, c3, c4, ↓ld_1, w1]
        exact ih2
      · rw [if_neg c1] at i
        rw [← i, show (u - u).toNat = 0 by omega, nvF] at j
        have tl := tail
        rw [← i, ← j] at tl
        have c2 := c1
        unfold isD at c2
        simp only [decide_eq_true_eq] at c2
        by_cases c3 : S 1 u < 48
        · simp (disch := omega) only [↓x_al_0, ↓c_75, ↓x_c, ↓x_is_3, ↓gi_2_2, ↓gi_2_1, ↓x_ge, ↓gr_2_0, ↓x_lt, ↓x_gt, ↓x_il_3, ↓x_imul, ↓x_iadd, ↓x_isub, ↓x_mm0, ↓x_dup_i, ↓x_dup_r, ↓pi_2_2, ↓x_go, ↓gi_2_3, ↓x_ne, ↓c_68, ↓x_pop_i, ↓x_pop_r, ↓x_ir, ↓x_il_1, ↓x_il_2, ↓x_le, ↓ld_1, ↓n_74, ↓s_74_0, ↓s_74_100, ↓s_74_110, ↓s_74_118, ↓bk_v, ↓bk_n, ↓bk_r, ↓pv_i, ↓pv_r, ↓pv_0, ↓pv_l, wz_pk, wz_ti, wz_wz, vI_wz, wz_id, wz_0, List.length_cons, List.length_nil, ↓reduceIte, true_and, and_true, Int.reduceLE, Int.reduceLT, Int.reduceEq, not_true_eq_false, not_false_eq_true, false_or, or_false, true_or, or_true, ite_not, Int.reduceNeg, Int32.reduceToInt, Nat.reduceAdd, Nat.reduceLeDiff, Nat.reduceLT, Nat.reduceEqDiff, Int.reduceAdd, Int.reduceSub, Int.reduceMul, Nat.zero_le, pk_po_ne, pk_po_eq, pk_po_ix, rI, ne_eq, tx_1, tx_2, tx_p2, tx_o, hn, e1, e2, e0, if_false, if_true, e4, e5, c3, ↓ld_1]
          exact tl
        · have c4 : 57 < S 1 u := by omega
          simp (disch := omega) only [↓x_al_0, ↓c_75, ↓x_c, ↓x_is_3, ↓gi_2_2, ↓gi_2_1, ↓x_ge, ↓gr_2_0, ↓x_lt, ↓x_gt, ↓x_il_3, ↓x_imul, ↓x_iadd, ↓x_isub, ↓x_mm0, ↓x_dup_i, ↓x_dup_r, ↓pi_2_2, ↓x_go, ↓gi_2_3, ↓x_ne, ↓c_68, ↓x_pop_i, ↓x_pop_r, ↓x_ir, ↓x_il_1, ↓x_il_2, ↓x_le, ↓ld_1, ↓n_74, ↓s_74_0, ↓s_74_100, ↓s_74_110, ↓s_74_118, ↓bk_v, ↓bk_n, ↓bk_r, ↓pv_i, ↓pv_r, ↓pv_0, ↓pv_l, wz_pk, wz_ti, wz_wz, vI_wz, wz_id, wz_0, List.length_cons, List.length_nil, ↓reduceIte, true_and, and_true, Int.reduceLE, Int.reduceLT, Int.reduceEq, not_true_eq_false, not_false_eq_true, false_or, or_false, true_or, or_true, ite_not, Int.reduceNeg, Int32.reduceToInt, Nat.reduceAdd, Nat.reduceLeDiff, Nat.reduceLT, Nat.reduceEqDiff, Int.reduceAdd, Int.reduceSub, Int.reduceMul, Nat.zero_le, pk_po_ne, pk_po_eq, pk_po_ix, rI, ne_eq, tx_1, tx_2, tx_p2, tx_o, hn, e1, e2, e0, if_false, if_true, e4, e5, c3, c4, ↓ld_1]
          exact tl
  have k0 := key _ (sk S n p) 0 (by omega) hs.2 (by omega) (by omega) rfl rfl rfl
  simp (disch := omega) only [↓x_al_0, ↓c_75, ↓x_c, ↓x_is_3, ↓gi_2_2, ↓gi_2_1, ↓x_ge, ↓gr_2_0, ↓x_lt, ↓x_gt, ↓x_il_3, ↓x_imul, ↓x_iadd, ↓x_isub, ↓x_mm0, ↓x_dup_i, ↓x_dup_r, ↓pi_2_2, ↓x_go, ↓gi_2_3, ↓x_ne, ↓c_68, ↓x_pop_i, ↓x_pop_r, ↓x_ir, ↓x_il_1, ↓x_il_2, ↓x_le, ↓ld_1, ↓n_74, ↓s_74_0, ↓s_74_81, ↓s_74_100, ↓s_74_110, ↓s_74_118, ↓bk_v, ↓bk_n, ↓bk_r, ↓pv_i, ↓pv_r, ↓pv_0, ↓pv_l, wz_pk, wz_ti, wz_wz, vI_wz, wz_id, wz_0, List.length_cons, List.length_nil, ↓reduceIte, true_and, and_true, Int.reduceLE, Int.reduceLT, Int.reduceEq, not_true_eq_false, not_false_eq_true, false_or, or_false, true_or, or_true, ite_not, Int.reduceNeg, Int32.reduceToInt, Nat.reduceAdd, Nat.reduceLeDiff, Nat.reduceLT, Nat.reduceEqDiff, Int.reduceAdd, Int.reduceSub, Int.reduceMul, Nat.zero_le, pk_po_ne, pk_po_eq, pk_po_ix, rI, ne_eq, ↓C75 hC hn h0 h1 h2]
  exact k0
end C43
