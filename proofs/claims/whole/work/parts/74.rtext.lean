/-! THE REFERENCE: texts -/
def ra (M : Mem) (p : Int) : Mem := po M 142 4 p
def chr (S : St) (n q : Int) : Int := if q < n then S 1 q else 0
def TR (S : St) (n : Int) (M : Mem) : Prop := (∀ i, 0 ≤ i → i < n → pk M 144 i = S 1 i) ∧ pk M 142 3 = n ∧ (0 ≤ n ∧ n ≤ 600)
/-- words as numbers -/
def hsh (S : St) (q : Int) : Nat → Int
  | 0 => 0
  | k + 1 => hsh S q k * 32 + (S 1 (q + k) - 96)
def hw (w : List Int32) : Nat → Int
  | 0 => 0
  | k + 1 => hw w k * 32 + ((w.getD k 0).toInt - 96)
def wrd (S : St) (q e : Int) : Int := if e - q ≤ 10 then hsh S q (e - q).toNat else 0
theorem hsh_iff {S : St} {q : Int} {w : List Int32} : ∀ (l m : Nat), (∀ k : Nat, k < m → 97 ≤ S 1 (q + k) ∧ S 1 (q + k) ≤ 122) → (∀ k : Nat, k < l → 97 ≤ (w.getD k 0).toInt ∧ (w.getD k 0).toInt ≤ 122) → (0 ≤ hsh S q m) ∧ (hsh S q m = hw w l ↔ m = l ∧ wal S q w l = true) := by
  intro l
  have pos : ∀ m : Nat, (∀ k : Nat, k < m → 97 ≤ S 1 (q + k) ∧ S 1 (q + k) ≤ 122) → 0 ≤ hsh S q m := by
    intro m
    induction m with
    | zero => intro _; simp [hsh]
    | succ m ih =>
      intro h
      have := ih (fun k hk => h k (by omega))
      have := h m (by omega)
      simp only [hsh]
      omega
  have posw : ∀ m : Nat, (∀ k : Nat, k < m → 97 ≤ (w.getD k 0).toInt ∧ (w.getD k 0).toInt ≤ 122) → 0 ≤ hw w m := by
    intro m
    induction m with
    | zero => intro _; simp [hw]
    | succ m ih =>
      intro h
      have := ih (fun k hk => h k (by omega))
      have := h m (by omega)
      simp only [hw]
      omega
  induction l with
  | zero =>
    intro m h1 h2
    refine ⟨pos m h1, ?_⟩
    cases m with
    | zero => simp [hsh, hw, wal]
    | succ m =>
      have a1 := pos m (fun k hk => h1 k (by omega))
      have a2 := h1 m (by omega)
      simp only [hsh, hw]
      constructor
      · intro h; omega
      · intro h; omega
  | succ l ih =>
    intro m h1 h2
    refine ⟨pos m h1, ?_⟩
    cases m with
    | zero =>
      have a1 := posw l (fun k hk => h2 k (by omega))
      have a2 := h2 l (by omega)
      simp only [hsh, hw]
      constructor
      · intro h; omega
      · intro h; omega
    | succ m =>
      have i1 := (ih m (fun k hk => h1 k (by omega)) (fun k hk => h2 k (by omega))).2
      have a2 := h1 m (by omega)
      have b2 := h2 l (by omega)
      simp only [hsh, hw, wal, Bool.and_eq_true, decide_eq_true_eq]
      constructor
      · intro h
        have e1 : hsh S q m = hw w l := by omega
        obtain ⟨e2, e3⟩ := i1.mp e1
        subst e2
        exact ⟨rfl, e3, by omega⟩
      · rintro ⟨h3, h4, h5⟩
        have e2 : m = l := by omega
        subst e2
        have := i1.mpr ⟨rfl, h4⟩
        omega
theorem hsh_le {S : St} {q : Int} : ∀ (m : Nat), (∀ k : Nat, k < m → 97 ≤ S 1 (q + k) ∧ S 1 (q + k) ≤ 122) → 0 ≤ hsh S q m ∧ hsh S q m < 32 ^ m := by
  intro m
  induction m with
  | zero => intro _; simp [hsh]
  | succ m ih =>
    intro h
    have h1 := ih (fun k hk => h k (by omega))
    have h2 := h m (by omega)
    simp only [hsh]
    rw [Int.pow_succ]
    omega
theorem hw_le {w : List Int32} : ∀ (m : Nat), (∀ k : Nat, k < m → 97 ≤ (w.getD k 0).toInt ∧ (w.getD k 0).toInt ≤ 122) → 0 ≤ hw w m ∧ hw w m < 32 ^ m := by
  intro m
  induction m with
  | zero => intro _; simp [hw]
  | succ m ih =>
    intro h
    have h1 := ih (fun k hk => h k (by omega))
    have h2 := h m (by omega)
    simp only [hw]
    rw [Int.pow_succ]
    omega
theorem p32 {m : Nat} (h : m ≤ 10) : (32 : Int) ^ m ≤ 1125899906842624 := by
  have h1 : (32 : Nat) ^ m ≤ 32 ^ 10 := Nat.pow_le_pow_right (by decide) h
  have h2 : ((32 ^ m : Nat) : Int) = (32 : Int) ^ m := by push_cast; rfl
  rw [← h2]
  have : (32 : Nat) ^ 10 = 1125899906842624 := rfl
  omega
theorem lsh5 {v c : Int} (hv : 0 ≤ v ∧ v < 1125899906842624) (hc : 0 ≤ c ∧ c < 32) : lor_ (lshl_ v 5) c = v * 32 + c := by
  have hs : lshl_ v 5 = v * 32 := by
    unfold lshl_
    have e : (Int32.ofInt 5).toInt64 &&& 63 = 5 := by decide
    rw [e]
    have e2 : (Int64.ofInt v <<< (5 : Int64)).toBitVec = BitVec.ofInt 64 (v * 32) := by
      show (BitVec.ofInt 64 v) <<< (5 : Nat) = _
      apply BitVec.eq_of_toNat_eq
      rw [BitVec.toNat_shiftLeft, BitVec.toNat_ofInt, BitVec.toNat_ofInt, Nat.shiftLeft_eq]
      omega
    show (Int64.ofInt v <<< (5 : Int64)).toBitVec.toInt = _
    rw [e2, BitVec.toInt_ofInt]
    rw [Int.bmod_eq_of_le (by omega) (by omega)]
  rw [hs]
  unfold lor_
  obtain ⟨a, rfl⟩ := Int.eq_ofNat_of_zero_le hv.1
  obtain ⟨b, rfl⟩ := Int.eq_ofNat_of_zero_le hc.1
  have e3 : (Int64.ofInt ((a : Int) * 32) ||| Int64.ofInt (b : Int)).toBitVec = BitVec.ofNat 64 (a * 32 + b) := by
    show BitVec.ofInt 64 ((a : Int) * 32) ||| BitVec.ofInt 64 (b : Int) = _
    apply BitVec.eq_of_toNat_eq
    rw [BitVec.toNat_or, BitVec.toNat_ofInt, BitVec.toNat_ofInt, BitVec.toNat_ofNat]
    have e4 : (((a : Int) * 32) % (2 ^ 64 : Nat)).toNat = 2 ^ 5 * a := by omega
    have e5 : ((b : Int) % (2 ^ 64 : Nat)).toNat = b := by omega
    rw [e4, e5, ← Nat.two_pow_add_eq_or_of_lt (by omega), Nat.mod_eq_of_lt (by omega)]
    omega
  show (Int64.ofInt ((a : Int) * 32) ||| Int64.ofInt (b : Int)).toBitVec.toInt = _
  rw [e3, BitVec.toInt_eq_toNat_of_lt (by rw [BitVec.toNat_ofNat]; omega), BitVec.toNat_ofNat]
  omega
section R74
variable {Q : MOut → MHp → Prop} {X : Nat × (Nat → Int32)} {s : Bool × Bool} {dh dl t : Nat} {M : Mem} {S : St} {p n : Int}
theorem lcm_0 {x y : Int} : (wz (if wy y < wy x then (1 : Int) else if wy x = wy y then 0 else -1) = 0) = (wy x = wy y) := by
  apply propext
  by_cases c : wy x = wy y
  · have c2 : ¬ wy y < wy x := by omega
    simp only [c, Int.lt_irrefl, if_false, if_true, wz_0]
  · by_cases c2 : wy y < wy x
    · simp only [c, c2, if_true, iff_false]
      decide
    · simp only [c, c2, if_false, iff_false]
      decide
theorem x_lcw1 {k pc pc2 L : Nat} {is : List (Nat × MI)} {ls st : List Value} {x y : Int} {h : MHp} : EX k ((pc, I_lcmp) :: (pc2, I_if 1 L) :: is) ls (vJ y :: vJ x :: st) h Q ↔ if wy x = wy y then EX k is ls st h Q else EX k (sx k L) ls st h Q := by
  rw [x_lcmp, x_ne0]
  simp only [lcm_0, ite_not]
theorem x_lcw0 {k pc pc2 L : Nat} {is : List (Nat × MI)} {ls st : List Value} {x y : Int} {h : MHp} : EX k ((pc, I_lcmp) :: (pc2, I_if 0 L) :: is) ls (vJ y :: vJ x :: st) h Q ↔ if wy x = wy y then EX k (sx k L) ls st h Q else EX k is ls st h Q := by
  rw [x_lcmp, x_eq0]
  simp only [lcm_0]
theorem ra_4 : pk (ra M p) 142 4 = wz p := pk_po_eq
theorem ra_x {i : Int} (h : i ≠ 4) : pk (ra M p) 142 i = pk M 142 i := pk_po_ix h
theorem ra_n {a : Nat} {i : Int} (h : a ≠ 142) : pk (ra M p) a i = pk M a i := pk_po_ne h
theorem ra_p {x : Int} : po (ra M p) 142 4 x = ra M x := by
  funext e j
  simp only [ra, po]
  split <;> rfl
theorem ra_po {a : Nat} {i x : Int} (h : a ≠ 142) : po (ra M p) a i x = ra (po M a i x) p := by
  funext e j
  simp only [ra, po]
  grind
theorem ra_px {i x : Int} (h : i ≠ 4) : po (ra M p) 142 i x = ra (po M 142 i x) p := by
  funext e j
  simp only [ra, po]
  grind
theorem R126 {c : Int} {h : MHp} : CL 126 [vI c] h Q ↔ Q (rI (bi (decide (97 ≤ wz c ∧ wz c ≤ 122)))) h := by
  simp only [↓x_il_0, ↓x_c, ↓x_lt, ↓x_gt, ↓x_go, ↓x_irz, ↓n_126, ↓s_126_0, ↓s_126_16, ↓s_126_17, ↓pv_i, ↓pv_r, ↓pv_0, ↓pv_l, wz_pk, wz_ti, wz_wz, vI_wz, wz_id, wz_0, List.length_cons, List.length_nil, ↓reduceIte, true_and, and_true, Int.reduceLE, Int.reduceLT, Int.reduceEq, not_true_eq_false, not_false_eq_true, false_or, or_false, true_or, or_true, ite_not, Int.reduceNeg, Int32.reduceToInt, Nat.reduceAdd, Nat.reduceLeDiff, Nat.reduceLT, Nat.reduceEqDiff, Int.reduceAdd, Int.reduceSub, Int.reduceMul, Nat.zero_le, pk_po_ne, pk_po_eq, pk_po_ix, rI, ne_eq]
  unfold bi
  grind
theorem R127 {c : Int} {h : MHp} : CL 127 [vI c] h Q ↔ Q (rI (bi (decide (48 ≤ wz c ∧ wz c ≤ 57)))) h := by
  simp only [↓x_il_0, ↓x_c, ↓x_lt, ↓x_gt, ↓x_go, ↓x_irz, ↓n_127, ↓s_127_0, ↓s_127_16, ↓s_127_17, ↓pv_i, ↓pv_r, ↓pv_0, ↓pv_l, wz_pk, wz_ti, wz_wz, vI_wz, wz_id, wz_0, List.length_cons, List.length_nil, ↓reduceIte, true_and, and_true, Int.reduceLE, Int.reduceLT, Int.reduceEq, not_true_eq_false, not_false_eq_true, false_or, or_false, true_or, or_true, ite_not, Int.reduceNeg, Int32.reduceToInt, Nat.reduceAdd, Nat.reduceLeDiff, Nat.reduceLT, Nat.reduceEqDiff, Int.reduceAdd, Int.reduceSub, Int.reduceMul, Nat.zero_le, pk_po_ne, pk_po_eq, pk_po_ix, rI, ne_eq]
  unfold bi
  grind
theorem R123 : CL 123 [.ref 142] (mkh X s dh dl t M) Q ↔ Q (rI (bi (decide (pk M 142 5 = -1)))) (mkh X s dh dl t M) := by
  simp only [↓x_al_0, ↓gi_142_5, ↓x_c, ↓x_ne, ↓x_go, ↓x_irz, ↓n_123, ↓s_123_0, ↓s_123_12, ↓s_123_13, ↓pv_i, ↓pv_r, ↓pv_0, ↓pv_l, wz_pk, wz_ti, wz_wz, vI_wz, wz_id, wz_0, List.length_cons, List.length_nil, ↓reduceIte, true_and, and_true, Int.reduceLE, Int.reduceLT, Int.reduceEq, not_true_eq_false, not_false_eq_true, false_or, or_false, true_or, or_true, ite_not, Int.reduceNeg, Int32.reduceToInt, Nat.reduceAdd, Nat.reduceLeDiff, Nat.reduceLT, Nat.reduceEqDiff, Int.reduceAdd, Int.reduceSub, Int.reduceMul, Nat.zero_le, pk_po_ne, pk_po_eq, pk_po_ix, rI, ne_eq]
  unfold bi
  grind
theorem R124f {k x : Int} (h : pk M 142 5 = -1) : CL 124 [.ref 142, vI k, vI x] (mkh X s dh dl t M) Q ↔ Q (.inl none) (mkh X s dh dl t (po (po M 142 5 x) 142 6 k)) := by
  simp only [↓x_al_0, ↓gi_142_5, ↓x_c, ↓x_eq, ↓x_rt, ↓x_il_2, ↓pi_142_5, ↓x_il_1, ↓pi_142_6, ↓n_124, ↓s_124_0, ↓s_124_9, ↓pv_i, ↓pv_r, ↓pv_0, ↓pv_l, wz_pk, wz_ti, wz_wz, vI_wz, wz_id, wz_0, List.length_cons, List.length_nil, ↓reduceIte, true_and, and_true, Int.reduceLE, Int.reduceLT, Int.reduceEq, not_true_eq_false, not_false_eq_true, false_or, or_false, true_or, or_true, ite_not, Int.reduceNeg, Int32.reduceToInt, Nat.reduceAdd, Nat.reduceLeDiff, Nat.reduceLT, Nat.reduceEqDiff, Int.reduceAdd, Int.reduceSub, Int.reduceMul, Nat.zero_le, pk_po_ne, pk_po_eq, pk_po_ix, rI, ne_eq, h, if_true]
theorem R124b {k x : Int} (h : ¬ pk M 142 5 = -1) : CL 124 [.ref 142, vI k, vI x] (mkh X s dh dl t M) Q ↔ Q (.inl none) (mkh X s dh dl t M) := by
  simp only [↓x_al_0, ↓gi_142_5, ↓x_c, ↓x_eq, ↓x_rt, ↓x_il_2, ↓pi_142_5, ↓x_il_1, ↓pi_142_6, ↓n_124, ↓s_124_0, ↓s_124_9, ↓pv_i, ↓pv_r, ↓pv_0, ↓pv_l, wz_pk, wz_ti, wz_wz, vI_wz, wz_id, wz_0, List.length_cons, List.length_nil, ↓reduceIte, true_and, and_true, Int.reduceLE, Int.reduceLT, Int.reduceEq, not_true_eq_false, not_false_eq_true, false_or, or_false, true_or, or_true, ite_not, Int.reduceNeg, Int32.reduceToInt, Nat.reduceAdd, Nat.reduceLeDiff, Nat.reduceLT, Nat.reduceEqDiff, Int.reduceAdd, Int.reduceSub, Int.reduceMul, Nat.zero_le, pk_po_ne, pk_po_eq, pk_po_ix, rI, ne_eq, h, if_false]
theorem TR.byte (hT : TR S n M) {u : Int} (h0 : 0 ≤ u) (h1 : u < n) : pk M 144 u = S 1 u := hT.1 u h0 h1
theorem R125 (hT : TR S n M) (h0 : 0 ≤ p) (h1 : p ≤ n) : CL 125 [.ref 142] (mkh X s dh dl t (ra M p)) Q ↔ Q (rI (chr S n (sk S n p))) (mkh X s dh dl t (ra M (sk S n p))) := by
  obtain ⟨t1, t2, t3⟩ := hT
  have key : ∀ (k : Nat) (u : Int), 0 ≤ u → u ≤ n → (n - u).toNat = k → (EX 125 (sx 125 0) [.ref 142] [] (mkh X s dh dl t (ra M u)) Q ↔ Q (rI (chr S n (scF (isB S n) k u))) (mkh X s dh dl t (ra M (scF (isB S n) k u)))) := by
    intro k
    induction k with
    | zero =>
      intro u a b c
      have e1 : n ≤ u := by omega
      have e2 : chr S n u = 0 := by unfold chr; rw [if_neg (by omega)]
      simp only [scF]
      rw [s_125_0, e2]
      simp (disch := omega) only [↓x_al_0, ↓gi_142_4, ↓gi_142_3, ↓x_ge, ↓gr_142_9, ↓x_c, ↓x_ne, ↓x_dup_i, ↓x_dup_r, ↓x_iadd, ↓pi_142_4, ↓x_go, ↓x_ir, ↓ld_144, ↓n_125, ↓s_125_38, ↓s_125_61, ↓s_125_62, ↓pv_i, ↓pv_r, ↓pv_0, ↓pv_l, wz_pk, wz_ti, wz_wz, vI_wz, wz_id, wz_0, List.length_cons, List.length_nil, ↓reduceIte, true_and, and_true, Int.reduceLE, Int.reduceLT, Int.reduceEq, not_true_eq_false, not_false_eq_true, false_or, or_false, true_or, or_true, ite_not, Int.reduceNeg, Int32.reduceToInt, Nat.reduceAdd, Nat.reduceLeDiff, Nat.reduceLT, Nat.reduceEqDiff, Int.reduceAdd, Int.reduceSub, Int.reduceMul, Nat.zero_le, pk_po_ne, pk_po_eq, pk_po_ix, rI, ne_eq, ra_4, ra_x, ra_n, t2, e1, if_true]
    | succ k ih =>
      intro u a b c
      have e1 : ¬ n ≤ u := by omega
      have e2 : u < 600 := by omega
      have e4 := t1 u a (by omega)
      have e6 : chr S n u = S 1 u := by unfold chr; rw [if_pos (by omega)]
      rw [s_125_0]
      simp only [scF]
      by_cases e3 : S 1 u = 32
      · rw [if_pos (by unfold isB; simp [e3]; omega)]
        have ih2 := ih (u + 1) (by omega) (by omega) (by omega)
        simp (disch := omega) only [↓x_al_0, ↓gi_142_4, ↓gi_142_3, ↓x_ge, ↓gr_142_9, ↓x_c, ↓x_ne, ↓x_dup_i, ↓x_dup_r, ↓x_iadd, ↓pi_142_4, ↓x_go, ↓x_ir, ↓ld_144, ↓n_125, ↓s_125_38, ↓s_125_61, ↓s_125_62, ↓pv_i, ↓pv_r, ↓pv_0, ↓pv_l, wz_pk, wz_ti, wz_wz, vI_wz, wz_id, wz_0, List.length_cons, List.length_nil, ↓reduceIte, true_and, and_true, Int.reduceLE, Int.reduceLT, Int.reduceEq, not_true_eq_false, not_false_eq_true, false_or, or_false, true_or, or_true, ite_not, Int.reduceNeg, Int32.reduceToInt, Nat.reduceAdd, Nat.reduceLeDiff, Nat.reduceLT, Nat.reduceEqDiff, Int.reduceAdd, Int.reduceSub, Int.reduceMul, Nat.zero_le, pk_po_ne, pk_po_eq, pk_po_ix, rI, ne_eq, ra_4, ra_x, ra_n, ra_p, t2, e1, e2, a, e4, wz_of e4, e3, if_false]
        exact ih2
      · rw [if_neg (by unfold isB; simp [e3]), e6]
        simp (disch := omega) only [↓x_al_0, ↓gi_142_4, ↓gi_142_3, ↓x_ge, ↓gr_142_9, ↓x_c, ↓x_ne, ↓x_dup_i, ↓x_dup_r, ↓x_iadd, ↓pi_142_4, ↓x_go, ↓x_ir, ↓ld_144, ↓n_125, ↓s_125_38, ↓s_125_61, ↓s_125_62, ↓pv_i, ↓pv_r, ↓pv_0, ↓pv_l, wz_pk, wz_ti, wz_wz, vI_wz, wz_id, wz_0, List.length_cons, List.length_nil, ↓reduceIte, true_and, and_true, Int.reduceLE, Int.reduceLT, Int.reduceEq, not_true_eq_false, not_false_eq_true, false_or, or_false, true_or, or_true, ite_not, Int.reduceNeg, Int32.reduceToInt, Nat.reduceAdd, Nat.reduceLeDiff, Nat.reduceLT, Nat.reduceEqDiff, Int.reduceAdd, Int.reduceSub, Int.reduceMul, Nat.zero_le, pk_po_ne, pk_po_eq, pk_po_ix, rI, ne_eq, ra_4, ra_x, ra_n, ra_p, t2, e1, e2, a, e4, wz_of e4, e3, if_false]
  rw [n_125, key _ p h0 h1 rfl]
  exact Iff.rfl
theorem R130 (hT : TR S n M) (h0 : 0 ≤ p) (h1 : p ≤ n) : CL 130 [.ref 142] (mkh X s dh dl t (ra M p)) Q ↔ Q (.inl none) (mkh X s dh dl t (ra M (we S n p))) := by
  obtain ⟨t1, t2, t3⟩ := hT
  have key : ∀ (k : Nat) (u : Int), 0 ≤ u → u ≤ n → (n - u).toNat = k → (EX 130 (sx 130 0) [.ref 142] [] (mkh X s dh dl t (ra M u)) Q ↔ Q (.inl none) (mkh X s dh dl t (ra M (scF (isL S n) k u)))) := by
    intro k
    induction k with
    | zero =>
      intro u a b c
      have e1 : n ≤ u := by omega
      simp only [scF]
      rw [s_130_0]
      simp (disch := omega) only [↓x_al_0, ↓gi_142_4, ↓gi_142_3, ↓x_ge, ↓gr_142_9, ↓c_126, ↓x_eq0, ↓x_dup_i, ↓x_dup_r, ↓x_c, ↓x_iadd, ↓pi_142_4, ↓x_go, ↓x_rt, ↓ld_144, ↓n_130, ↓s_130_39, ↓bk_v, ↓bk_n, ↓bk_r, ↓pv_i, ↓pv_r, ↓pv_0, ↓pv_l, wz_pk, wz_ti, wz_wz, vI_wz, wz_id, wz_0, List.length_cons, List.length_nil, ↓reduceIte, true_and, and_true, Int.reduceLE, Int.reduceLT, Int.reduceEq, not_true_eq_false, not_false_eq_true, false_or, or_false, true_or, or_true, ite_not, Int.reduceNeg, Int32.reduceToInt, Nat.reduceAdd, Nat.reduceLeDiff, Nat.reduceLT, Nat.reduceEqDiff, Int.reduceAdd, Int.reduceSub, Int.reduceMul, Nat.zero_le, pk_po_ne, pk_po_eq, pk_po_ix, rI, ne_eq, ra_4, ra_x, ra_n, t2, e1, if_true]
    | succ k ih =>
      intro u a b c
      have e1 : ¬ n ≤ u := by omega
      have e2 : u < 600 := by omega
      have e4 := t1 u a (by omega)
      rw [s_130_0]
      simp only [scF]
      by_cases e3 : 97 ≤ S 1 u ∧ S 1 u ≤ 122
      · rw [if_pos (by unfold isL; simp [e3]; omega)]
        have ih2 := ih (u + 1) (by omega) (by omega) (by omega)
        simp (disch := omega) only [↓x_al_0, ↓gi_142_4, ↓gi_142_3, ↓x_ge, ↓gr_142_9, ↓c_126, ↓x_eq0, ↓x_dup_i, ↓x_dup_r, ↓x_c, ↓x_iadd, ↓pi_142_4, ↓x_go, ↓x_rt, ↓ld_144, ↓n_130, ↓s_130_39, ↓bk_v, ↓bk_n, ↓bk_r, ↓pv_i, ↓pv_r, ↓pv_0, ↓pv_l, wz_pk, wz_ti, wz_wz, vI_wz, wz_id, wz_0, List.length_cons, List.length_nil, ↓reduceIte, true_and, and_true, Int.reduceLE, Int.reduceLT, Int.reduceEq, not_true_eq_false, not_false_eq_true, false_or, or_false, true_or, or_true, ite_not, Int.reduceNeg, Int32.reduceToInt, Nat.reduceAdd, Nat.reduceLeDiff, Nat.reduceLT, Nat.reduceEqDiff, Int.reduceAdd, Int.reduceSub, Int.reduceMul, Nat.zero_le, pk_po_ne, pk_po_eq, pk_po_ix, rI, ne_eq, ra_4, ra_x, ra_n, ra_p, t2, e1, e2, a, e4, wz_of e4, ↓R126, bi_wz, bi_0, decide_eq_false_iff_not, e3, if_false, and_self]
        exact ih2
      · rw [if_neg (by unfold isL; simp; intro _ _; omega)]
        simp (disch := omega) only [↓x_al_0, ↓gi_142_4, ↓gi_142_3, ↓x_ge, ↓gr_142_9, ↓c_126, ↓x_eq0, ↓x_dup_i, ↓x_dup_r, ↓x_c, ↓x_iadd, ↓pi_142_4, ↓x_go, ↓x_rt, ↓ld_144, ↓n_130, ↓s_130_39, ↓bk_v, ↓bk_n, ↓bk_r, ↓pv_i, ↓pv_r, ↓pv_0, ↓pv_l, wz_pk, wz_ti, wz_wz, vI_wz, wz_id, wz_0, List.length_cons, List.length_nil, ↓reduceIte, true_and, and_true, Int.reduceLE, Int.reduceLT, Int.reduceEq, not_true_eq_false, not_false_eq_true, false_or, or_false, true_or, or_true, ite_not, Int.reduceNeg, Int32.reduceToInt, Nat.reduceAdd, Nat.reduceLeDiff, Nat.reduceLT, Nat.reduceEqDiff, Int.reduceAdd, Int.reduceSub, Int.reduceMul, Nat.zero_le, pk_po_ne, pk_po_eq, pk_po_ix, rI, ne_eq, ra_4, ra_x, ra_n, ra_p, t2, e1, e2, a, e4, wz_of e4, ↓R126, bi_wz, bi_0, decide_eq_false_iff_not, e3, if_false, if_true]
  rw [n_130, key _ p h0 h1 rfl]
  exact Iff.rfl
theorem we_let {q : Int} : ∀ k : Nat, k < (we S n q - q).toNat → 97 ≤ S 1 (q + k) ∧ S 1 (q + k) ≤ 122 := by
  intro k hk
  have := scF_all (c := isL S n) (n - q).toNat q (q + k) (by omega) (by show q + (k : Int) < we S n q; omega)
  unfold isL at this
  simp at this
  omega
theorem R128 (hT : TR S n M) (h0 : 0 ≤ p) (h1 : p ≤ n) : CL 128 [.ref 142] (mkh X s dh dl t (ra M p)) Q ↔ Q (.inl (some (vJ (wrd S (sk S n p) (we S n (sk S n p)))))) (mkh X s dh dl t (ra M (sk S n p))) := by
  have hs := sk_rng (S := S) h1
  have hwr := we_rng (S := S) hs.2
  have hlet := we_let (S := S) (n := n) (q := sk S n p)
  have hT' := hT
  obtain ⟨t1, t2, t3⟩ := hT'
  generalize hq : sk S n p = q at *
  have key : ∀ (k : Nat) (u : Int), q ≤ u → u ≤ n → (n - u).toNat = k → scF (isL S n) k u = we S n q → (EX 128 (sx 128 15) [.ref 142, vJ (if u - q ≤ 10 then hsh S q (u - q).toNat else 0), .null, vI (u - q), vI u] [] (mkh X s dh dl t (ra M q)) Q ↔ Q (.inl (some (vJ (wrd S q (we S n q))))) (mkh X s dh dl t (ra M q))) := by
    intro k
    induction k with
    | zero =>
      intro u a b c d
      have e1 : n ≤ u := by omega
      simp only [scF] at d
      conv => lhs; rw [s_128_15]
      rw [← d]
      unfold wrd
      by_cases c1 : u - q ≤ 10
      · rw [if_pos c1]
        simp (disch := omega) only [↓x_al_0, ↓c_125, ↓x_pop_i, ↓x_pop_r, ↓x_lc, ↓x_ls_1, ↓x_c, ↓x_is_3, ↓gi_142_4, ↓x_is_4, ↓x_il_4, ↓gi_142_3, ↓x_ge, ↓gr_142_9, ↓c_126, ↓x_eq0, ↓x_il_3, ↓x_ll_1, ↓x_lshl, ↓x_isub, ↓x_i2l, ↓x_lor, ↓x_go, ↓x_inc_3, ↓x_inc_4, ↓x_le, ↓x_lr, ↓ld_144, ↓n_128, ↓s_128_0, ↓s_128_61, ↓s_128_62, ↓s_128_72, ↓s_128_82, ↓s_128_83, ↓bk_v, ↓bk_n, ↓bk_r, ↓pv_i, ↓pv_r, ↓pv_0, ↓pv_l, wz_pk, wz_ti, wz_wz, vI_wz, wz_id, wz_0, List.length_cons, List.length_nil, ↓reduceIte, true_and, and_true, Int.reduceLE, Int.reduceLT, Int.reduceEq, not_true_eq_false, not_false_eq_true, false_or, or_false, true_or, or_true, ite_not, Int.reduceNeg, Int32.reduceToInt, Nat.reduceAdd, Nat.reduceLeDiff, Nat.reduceLT, Nat.reduceEqDiff, Int.reduceAdd, Int.reduceSub, Int.reduceMul, Nat.zero_le, pk_po_ne, pk_po_eq, pk_po_ix, rI, ne_eq, ra_4, ra_x, ra_n, t2, e1, if_true, c1, if_false]
      · rw [if_neg c1]
        simp (disch := omega) only [↓x_al_0, ↓c_125, ↓x_pop_i, ↓x_pop_r, ↓x_lc, ↓x_ls_1, ↓x_c, ↓x_is_3, ↓gi_142_4, ↓x_is_4, ↓x_il_4, ↓gi_142_3, ↓x_ge, ↓gr_142_9, ↓c_126, ↓x_eq0, ↓x_il_3, ↓x_ll_1, ↓x_lshl, ↓x_isub, ↓x_i2l, ↓x_lor, ↓x_go, ↓x_inc_3, ↓x_inc_4, ↓x_le, ↓x_lr, ↓ld_144, ↓n_128, ↓s_128_0, ↓s_128_61, ↓s_128_62, ↓s_128_72, ↓s_128_82, ↓s_128_83, ↓bk_v, ↓bk_n, ↓bk_r, ↓pv_i, ↓pv_r, ↓pv_0, ↓pv_l, wz_pk, wz_ti, wz_wz, vI_wz, wz_id, wz_0, List.length_cons, List.length_nil, ↓reduceIte, true_and, and_true, Int.reduceLE, Int.reduceLT, Int.reduceEq, not_true_eq_false, not_false_eq_true, false_or, or_false, true_or, or_true, ite_not, Int.reduceNeg, Int32.reduceToInt, Nat.reduceAdd, Nat.reduceLeDiff, Nat.reduceLT, Nat.reduceEqDiff, Int.reduceAdd, Int.reduceSub, Int.reduceMul, Nat.zero_le, pk_po_ne, pk_po_eq, pk_po_ix, rI, ne_eq, ra_4, ra_x, ra_n, t2, e1, if_true, c1, if_false]
        rfl
    | succ k ih =>
      intro u a b c d
      have e1 : ¬ n ≤ u := by omega
      have e2 : u < 600 := by omega
      have e0 : 0 ≤ u := by omega
      have e4 := t1 u (by omega) (by omega)
      simp only [scF] at d
      conv => lhs; rw [s_128_15]
      by_cases e3 : 97 ≤ S 1 u ∧ S 1 u ≤ 122
      · rw [if_pos (by unfold isL; simp [e3]; omega)] at d
        have ih2 := ih (u + 1) (by omega) (by omega) (by omega) d
        rw [show u + 1 - q = u - q + 1 by omega] at ih2
        by_cases c1 : u - q < 10
        · have hle := hsh_le (S := S) (q := q) (u - q).toNat (fun k' hk => hlet k' (by
            have := scF_rng (c := isL S n) k (u + 1)
            omega))
          have h32 := p32 (m := (u - q).toNat) (by omega)
          have l5 := lsh5 (v := hsh S q (u - q).toNat) (c := S 1 u - 96) (by omega) (by omega)
          have eh : hsh S q (u - q + 1).toNat = hsh S q (u - q).toNat * 32 + (S 1 u - 96) := by
            rw [show (u - q + 1).toNat = (u - q).toNat + 1 by omega]
            simp only [hsh]
            rw [show q + ((u - q).toNat : Int) = u by omega]
          rw [if_pos (by omega), eh, ← l5] at ih2
          have c2 : ¬ 10 ≤ u - q := by omega
          have c3 : u - q ≤ 10 := by omega
          simp (disch := omega) only [↓x_al_0, ↓c_125, ↓x_pop_i, ↓x_pop_r, ↓x_lc, ↓x_ls_1, ↓x_c, ↓x_is_3, ↓gi_142_4, ↓x_is_4, ↓x_il_4, ↓gi_142_3, ↓x_ge, ↓gr_142_9, ↓c_126, ↓x_eq0, ↓x_il_3, ↓x_ll_1, ↓x_lshl, ↓x_isub, ↓x_i2l, ↓x_lor, ↓x_go, ↓x_inc_3, ↓x_inc_4, ↓x_le, ↓x_lr, ↓ld_144, ↓n_128, ↓s_128_0, ↓s_128_61, ↓s_128_62, ↓s_128_72, ↓s_128_82, ↓s_128_83, ↓bk_v, ↓bk_n, ↓bk_r, ↓pv_i, ↓pv_r, ↓pv_0, ↓pv_l, wz_pk, wz_ti, wz_wz, vI_wz, wz_id, wz_0, List.length_cons, List.length_nil, ↓reduceIte, true_and, and_true, Int.reduceLE, Int.reduceLT, Int.reduceEq, not_true_eq_false, not_false_eq_true, false_or, or_false, true_or, or_true, ite_not, Int.reduceNeg, Int32.reduceToInt, Nat.reduceAdd, Nat.reduceLeDiff, Nat.reduceLT, Nat.reduceEqDiff, Int.reduceAdd, Int.reduceSub, Int.reduceMul, Nat.zero_le, pk_po_ne, pk_po_eq, pk_po_ix, rI, ne_eq, ra_4, ra_x, ra_n, t2, e1, e2, e0, e4, wz_of e4, ↓R126, bi_wz, bi_0, decide_eq_false_iff_not, e3, if_false, and_self, c2, c3, if_true]
          exact ih2
        · rw [if_neg (by omega)] at ih2
          have c2 : 10 ≤ u - q := by omega
          simp (disch := omega) only [↓x_al_0, ↓c_125, ↓x_pop_i, ↓x_pop_r, ↓x_lc, ↓x_ls_1, ↓x_c, ↓x_is_3, ↓gi_142_4, ↓x_is_4, ↓x_il_4, ↓gi_142_3, ↓x_ge, ↓gr_142_9, ↓c_126, ↓x_eq0, ↓x_il_3, ↓x_ll_1, ↓x_lshl, ↓x_isub, ↓x_i2l, ↓x_lor, ↓x_go, ↓x_inc_3, ↓x_inc_4, ↓x_le, ↓x_lr, ↓ld_144, ↓n_128, ↓s_128_0, ↓s_128_61, ↓s_128_62, ↓s_128_72, ↓s_128_82, ↓s_128_83, ↓bk_v, ↓bk_n, ↓bk_r, ↓pv_i, ↓pv_r, ↓pv_0, ↓pv_l, wz_pk, wz_ti, wz_wz, vI_wz, wz_id, wz_0, List.length_cons, List.length_nil, ↓reduceIte, true_and, and_true, Int.reduceLE, Int.reduceLT, Int.reduceEq, not_true_eq_false, not_false_eq_true, false_or, or_false, true_or, or_true, ite_not, Int.reduceNeg, Int32.reduceToInt, Nat.reduceAdd, Nat.reduceLeDiff, Nat.reduceLT, Nat.reduceEqDiff, Int.reduceAdd, Int.reduceSub, Int.reduceMul, Nat.zero_le, pk_po_ne, pk_po_eq, pk_po_ix, rI, ne_eq, ra_4, ra_x, ra_n, t2, e1, e2, e0, e4, wz_of e4, ↓R126, bi_wz, bi_0, decide_eq_false_iff_not, e3, if_false, and_self, c2, if_true]
          exact ih2
      · rw [if_neg (by unfold isL; simp; intro _ _; omega)] at d
        rw [← d]
        unfold wrd
        by_cases c1 : u - q ≤ 10
        · rw [if_pos c1]
          simp (disch := omega) only [↓x_al_0, ↓c_125, ↓x_pop_i, ↓x_pop_r, ↓x_lc, ↓x_ls_1, ↓x_c, ↓x_is_3, ↓gi_142_4, ↓x_is_4, ↓x_il_4, ↓gi_142_3, ↓x_ge, ↓gr_142_9, ↓c_126, ↓x_eq0, ↓x_il_3, ↓x_ll_1, ↓x_lshl, ↓x_isub, ↓x_i2l, ↓x_lor, ↓x_go, ↓x_inc_3, ↓x_inc_4, ↓x_le, ↓x_lr, ↓ld_144, ↓n_128, ↓s_128_0, ↓s_128_61, ↓s_128_62, ↓s_128_72, ↓s_128_82, ↓s_128_83, ↓bk_v, ↓bk_n, ↓bk_r, ↓pv_i, ↓pv_r, ↓pv_0, ↓pv_l, wz_pk, wz_ti, wz_wz, vI_wz, wz_id, wz_0, List.length_cons, List.length_nil, ↓reduceIte, true_and, and_true, Int.reduceLE, Int.reduceLT, Int.reduceEq, not_true_eq_false, not_false_eq_true, false_or, or_false, true_or, or_true, ite_not, Int.reduceNeg, Int32.reduceToInt, Nat.reduceAdd, Nat.reduceLeDiff, Nat.reduceLT, Nat.reduceEqDiff, Int.reduceAdd, Int.reduceSub, Int.reduceMul, Nat.zero_le, pk_po_ne, pk_po_eq, pk_po_ix, rI, ne_eq, ra_4, ra_x, ra_n, t2, e1, e2, e0, e4, wz_of e4, ↓R126, bi_wz, bi_0, decide_eq_false_iff_not, e3, if_false, if_true, c1]
        · rw [if_neg c1]
          simp (disch := omega) only [↓x_al_0, ↓c_125, ↓x_pop_i, ↓x_pop_r, ↓x_lc, ↓x_ls_1, ↓x_c, ↓x_is_3, ↓gi_142_4, ↓x_is_4, ↓x_il_4, ↓gi_142_3, ↓x_ge, ↓gr_142_9, ↓c_126, ↓x_eq0, ↓x_il_3, ↓x_ll_1, ↓x_lshl, ↓x_isub, ↓x_i2l, ↓x_lor, ↓x_go, ↓x_inc_3, ↓x_inc_4, ↓x_le, ↓x_lr, ↓ld_144, ↓n_128, ↓s_128_0, ↓s_128_61, ↓s_128_62, ↓s_128_72, ↓s_128_82, ↓s_128_83, ↓bk_v, ↓bk_n, ↓bk_r, ↓pv_i, ↓pv_r, ↓pv_0, ↓pv_l, wz_pk, wz_ti, wz_wz, vI_wz, wz_id, wz_0, List.length_cons, List.length_nil, ↓reduceIte, true_and, and_true, Int.reduceLE, Int.reduceLT, Int.reduceEq, not_true_eq_false, not_false_eq_true, false_or, or_false, true_or, or_true, ite_not, Int.reduceNeg, Int32.reduceToInt, Nat.reduceAdd, Nat.reduceLeDiff, Nat.reduceLT, Nat.reduceEqDiff, Int.reduceAdd, Int.reduceSub, Int.reduceMul, Nat.zero_le, pk_po_ne, pk_po_eq, pk_po_ix, rI, ne_eq, ra_4, ra_x, ra_n, t2, e1, e2, e0, e4, wz_of e4, ↓R126, bi_wz, bi_0, decide_eq_false_iff_not, e3, if_false, if_true, c1]
          rfl
  have k0 := key _ q (by omega) hs.2 rfl rfl
  rw [Int.sub_self, if_pos (by decide)] at k0
  simp (disch := omega) only [↓x_al_0, ↓c_125, ↓x_pop_i, ↓x_pop_r, ↓x_lc, ↓x_ls_1, ↓x_c, ↓x_is_3, ↓gi_142_4, ↓x_is_4, ↓x_il_4, ↓gi_142_3, ↓x_ge, ↓gr_142_9, ↓c_126, ↓x_eq0, ↓x_il_3, ↓x_ll_1, ↓x_lshl, ↓x_isub, ↓x_i2l, ↓x_lor, ↓x_go, ↓x_inc_3, ↓x_inc_4, ↓x_le, ↓x_lr, ↓ld_144, ↓n_128, ↓s_128_0, ↓s_128_61, ↓s_128_62, ↓s_128_72, ↓s_128_82, ↓s_128_83, ↓bk_v, ↓bk_n, ↓bk_r, ↓pv_i, ↓pv_r, ↓pv_0, ↓pv_l, wz_pk, wz_ti, wz_wz, vI_wz, wz_id, wz_0, List.length_cons, List.length_nil, ↓reduceIte, true_and, and_true, Int.reduceLE, Int.reduceLT, Int.reduceEq, not_true_eq_false, not_false_eq_true, false_or, or_false, true_or, or_true, ite_not, Int.reduceNeg, Int32.reduceToInt, Nat.reduceAdd, Nat.reduceLeDiff, Nat.reduceLT, Nat.reduceEqDiff, Int.reduceAdd, Int.reduceSub, Int.reduceMul, Nat.zero_le, pk_po_ne, pk_po_eq, pk_po_ix, rI, ne_eq, ↓R125 hT h0 h1, ra_4, hq]
  exact k0
def okw (w : List Int32) : Bool := decide (0 < w.length) && decide (w.length ≤ 10) && (List.range w.length).all (fun k => decide (97 ≤ (w.getD k 0).toInt) && decide ((w.getD k 0).toInt ≤ 122))
theorem okw_is {w : List Int32} (h : okw w = true) : (0 < w.length ∧ w.length ≤ 10) ∧ ∀ k : Nat, k < w.length → 97 ≤ (w.getD k 0).toInt ∧ (w.getD k 0).toInt ≤ 122 := by
  unfold okw at h
  simp only [Bool.and_eq_true, decide_eq_true_eq] at h
  refine ⟨h.1, fun k hk => ?_⟩
  have := List.all_eq_true.mp h.2 k (List.mem_range.mpr hk)
  simpa using this
theorem R129 {j : Nat} {h : MHp} (hj : j < 1000) (hk : okw (P_txt j) = true) : CL 129 [.ref (mK + j)] h Q ↔ Q (.inl (some (vJ (hw (P_txt j) (P_txt j).length)))) h := by
  obtain ⟨⟨w1, w2⟩, w3⟩ := okw_is hk
  have sl := fun (k pc idx pl : Nat) (is : List (Nat × MI)) (ls st : List Value) (h : MHp) (Q : MOut → MHp → Prop) => x_sl (k := k) (pc := pc) (idx := idx) (pl := pl) (is := is) (ls := ls) (st := st) (h := h) (Q := Q) hj w1
  have sc := fun (k pc idx pl : Nat) (is : List (Nat × MI)) (ls st : List Value) (h : MHp) (Q : MOut → MHp → Prop) (i : Int) => x_sc (k := k) (pc := pc) (idx := idx) (pl := pl) (is := is) (ls := ls) (st := st) (h := h) (Q := Q) (i := i) hj
  have key : EX 129 (sx 129 4) [.ref (mK + j), vJ (hw (P_txt j) (0 : Nat)), .null, vI ((0 : Nat) : Int)] [] h Q ↔ Q (.inl (some (vJ (hw (P_txt j) (P_txt j).length)))) h := by
    refine lp (n := (P_txt j).length) (fun i => EX 129 (sx 129 4) [.ref (mK + j), vJ (hw (P_txt j) i), .null, vI (i : Int)] [] h Q ↔ _) ?_ ?_
    · conv => lhs; rw [s_129_4]
      simp (disch := omega) only [↓x_lc, ↓x_ls_1, ↓x_c, ↓x_is_3, ↓x_il_3, ↓x_al_0, ↓x_ge, ↓x_ll_1, ↓x_lshl, ↓x_isub, ↓x_i2l, ↓x_lor, ↓x_inc_3, ↓x_go, ↓x_lr, ↓n_129, ↓s_129_0, ↓s_129_32, ↓pv_i, ↓pv_r, ↓pv_0, ↓pv_l, wz_pk, wz_ti, wz_wz, vI_wz, wz_id, wz_0, List.length_cons, List.length_nil, ↓reduceIte, true_and, and_true, Int.reduceLE, Int.reduceLT, Int.reduceEq, not_true_eq_false, not_false_eq_true, false_or, or_false, true_or, or_true, ite_not, Int.reduceNeg, Int32.reduceToInt, Nat.reduceAdd, Nat.reduceLeDiff, Nat.reduceLT, Nat.reduceEqDiff, Int.reduceAdd, Int.reduceSub, Int.reduceMul, Nat.zero_le, pk_po_ne, pk_po_eq, pk_po_ix, rI, ne_eq, ↓sl, Int.le_refl, if_true]
    · intro i hi ih
      have e1 : ¬ ((P_txt j).length : Int) ≤ i := by omega
      have e2 : (i : Int) < (P_txt j).length := by omega
      have e3 : (0 : Int) ≤ i := by omega
      have hle := hw_le (w := P_txt j) i (fun k hk => w3 k (by omega))
      have h32 := p32 (m := i) (by omega)
      have hb := w3 i hi
      have l5 := lsh5 (v := hw (P_txt j) i) (c := ((P_txt j).getD i 0).toInt - 96) (by omega) (by omega)
      simp only [hw] at ih
      rw [← l5] at ih
      conv => lhs; rw [s_129_4]
      simp (disch := omega) only [↓x_lc, ↓x_ls_1, ↓x_c, ↓x_is_3, ↓x_il_3, ↓x_al_0, ↓x_ge, ↓x_ll_1, ↓x_lshl, ↓x_isub, ↓x_i2l, ↓x_lor, ↓x_inc_3, ↓x_go, ↓x_lr, ↓n_129, ↓s_129_0, ↓s_129_32, ↓pv_i, ↓pv_r, ↓pv_0, ↓pv_l, wz_pk, wz_ti, wz_wz, vI_wz, wz_id, wz_0, List.length_cons, List.length_nil, ↓reduceIte, true_and, and_true, Int.reduceLE, Int.reduceLT, Int.reduceEq, not_true_eq_false, not_false_eq_true, false_or, or_false, true_or, or_true, ite_not, Int.reduceNeg, Int32.reduceToInt, Nat.reduceAdd, Nat.reduceLeDiff, Nat.reduceLT, Nat.reduceEqDiff, Int.reduceAdd, Int.reduceSub, Int.reduceMul, Nat.zero_le, pk_po_ne, pk_po_eq, pk_po_ix, rI, ne_eq, ↓sl, ↓sc, e1, e2, e3, if_false, Int.toNat_natCast]
      exact ih
  simp only [↓x_lc, ↓x_ls_1, ↓x_c, ↓x_is_3, ↓x_il_3, ↓x_al_0, ↓x_ge, ↓x_ll_1, ↓x_lshl, ↓x_isub, ↓x_i2l, ↓x_lor, ↓x_inc_3, ↓x_go, ↓x_lr, ↓n_129, ↓s_129_0, ↓s_129_32, ↓pv_i, ↓pv_r, ↓pv_0, ↓pv_l, wz_pk, wz_ti, wz_wz, vI_wz, wz_id, wz_0, List.length_cons, List.length_nil, ↓reduceIte, true_and, and_true, Int.reduceLE, Int.reduceLT, Int.reduceEq, not_true_eq_false, not_false_eq_true, false_or, or_false, true_or, or_true, ite_not, Int.reduceNeg, Int32.reduceToInt, Nat.reduceAdd, Nat.reduceLeDiff, Nat.reduceLT, Nat.reduceEqDiff, Int.reduceAdd, Int.reduceSub, Int.reduceMul, Nat.zero_le, pk_po_ne, pk_po_eq, pk_po_ix, rI, ne_eq]
  exact key
theorem wrd_iff {j : Nat} {q : Int} (hk : okw (P_txt j) = true) (h1 : q ≤ n) : (wy (wrd S q (we S n q)) = wy (hw (P_txt j) (P_txt j).length)) = (isW S q (we S n q) (P_txt j) = true) := by
  obtain ⟨⟨w1, w2⟩, w3⟩ := okw_is hk
  have hwr := we_rng (S := S) h1
  have hlet := we_let (S := S) (n := n) (q := q)
  have hle := hw_le (w := P_txt j) (P_txt j).length w3
  have h32 := p32 (m := (P_txt j).length) w2
  have hi := hsh_iff (S := S) (q := q) (w := P_txt j) (P_txt j).length (we S n q - q).toNat hlet w3
  have hp : 0 < hw (P_txt j) (P_txt j).length := by
    obtain ⟨l, hl⟩ : ∃ l, (P_txt j).length = l + 1 := ⟨(P_txt j).length - 1, by omega⟩
    rw [hl]
    simp only [hw]
    have a1 := hw_le (w := P_txt j) l (fun k hk => w3 k (by omega))
    have a2 := w3 l (by omega)
    omega
  rw [wy_id (x := hw (P_txt j) (P_txt j).length) (by omega) (by omega)]
  apply propext
  unfold wrd isW
  by_cases c : we S n q - q ≤ 10
  · have hle2 := hsh_le (S := S) (q := q) (we S n q - q).toNat hlet
    have h322 := p32 (m := (we S n q - q).toNat) (by omega)
    rw [if_pos c, wy_id (by omega) (by omega), hi.2]
    simp only [Bool.and_eq_true, decide_eq_true_eq]
    constructor
    · rintro ⟨a, b⟩; exact ⟨by omega, b⟩
    · rintro ⟨a, b⟩; exact ⟨by omega, b⟩
  · rw [if_neg c, wy_id (by omega) (by omega)]
    simp only [Bool.and_eq_true, decide_eq_true_eq]
    constructor
    · intro h; omega
    · rintro ⟨a, b⟩; omega
end R74
