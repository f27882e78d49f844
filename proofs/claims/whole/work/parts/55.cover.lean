/-! THE LEAST GOODS THAT COVER: sets in their order, the best so far (its bits, its sum, how many) -/
def cvS (need : Int) (a : Int × Int × Int) (m s c : Int) : Int × Int × Int := if s < need then a else if a.1 = -1 ∨ s < a.2.1 ∨ (s = a.2.1 ∧ c < a.2.2) then (m, s, c) else a
def cvF (need : Int) (ok : Nat → Bool) (v : Int → Int) : Nat → Int × Int × Int → Int → Int → Int → Int × Int × Int
  | 0, a, m, s, c => cvS need a m s c
  | g + 1, a, m, s, c => if ok g = true then cvF need ok v g (cvF need ok v g a m s c) (m + 2 ^ g) (s + v g) (c + 1) else cvF need ok v g a m s c
/-- the same over the places of those that are offered -/
def cvP (need : Int) (gd : Int → Int) (v : Int → Int) : Nat → Int × Int × Int → Int → Int → Int → Int × Int × Int
  | 0, a, m, s, c => cvS need a m s c
  | i + 1, a, m, s, c => cvP need gd v i (cvP need gd v i a m s c) (m + 2 ^ (gd i).toNat) (s + v i) (c + 1)
def cvQ (need : Int) (gd : Int → Int) (v : Int → Int) : Nat → Int × Int × Int → Int → Int → Int → Int × Int × Int
  | 0, a, _, _, _ => a
  | i + 1, a, m, s, c => cvQ need gd v i (cvS need (cvQ need gd v i a m s c) (m + 2 ^ (gd i).toNat) (s + v i) (c + 1)) (m + 2 ^ (gd i).toNat) (s + v i) (c + 1)
theorem cvP_Q {need : Int} {gd v : Int → Int} : ∀ (i : Nat) (a : Int × Int × Int) (m s c : Int), cvP need gd v i a m s c = cvQ need gd v i (cvS need a m s c) m s c := by
  intro i
  induction i with
  | zero => intro a m s c; rfl
  | succ i ih => intro a m s c; simp only [cvP, cvQ]; rw [ih, ih]
/-- how many of the first g are offered -/
def kc (ok : Nat → Bool) : Nat → Nat
  | 0 => 0
  | g + 1 => kc ok g + if ok g = true then 1 else 0
theorem kc_le {ok : Nat → Bool} : ∀ g, kc ok g ≤ g := by
  intro g
  induction g with
  | zero => exact Nat.le_refl _
  | succ g ih => simp only [kc]; split <;> omega
theorem kc_mono {ok : Nat → Bool} {g : Nat} : ∀ h, g ≤ h → kc ok g ≤ kc ok h := by
  intro h
  induction h with
  | zero => intro h1; rw [show g = 0 by omega]; exact Nat.le_refl _
  | succ h ih =>
    intro h1
    by_cases e : g = h + 1
    · rw [e]; exact Nat.le_refl _
    · have := ih (by omega); simp only [kc]; omega
theorem cvF_P {need : Int} {ok : Nat → Bool} {v gd vl : Int → Int} {G : Nat} (h : ∀ g, g < G → ok g = true → gd (kc ok g) = g ∧ vl (kc ok g) = v g) : ∀ (g : Nat), g ≤ G → ∀ (a : Int × Int × Int) (m s c : Int), cvF need ok v g a m s c = cvP need gd vl (kc ok g) a m s c := by
  intro g
  induction g with
  | zero => intro _ a m s c; rfl
  | succ g ih =>
    intro hg a m s c
    simp only [cvF, kc]
    split
    · rename_i ho
      obtain ⟨h1, h2⟩ := h g (by omega) ho
      simp only [cvP]
      rw [ih (by omega), ih (by omega), h1, h2, Int.toNat_natCast]
    · rw [ih (by omega)]
      rfl
def okCv (S : St) (d m o : Int) (g : Nat) : Bool := !gone S g && decide (barred S d g m o = -1)
def vCv (S : St) (p : Int) (g : Int) : Int := share S g p (S 12 g)
def coverR (S : St) (d m o : Int) : Int × Int × Int := cvF (S 30 d + feesTo S (S 86 (S 29 d))) (okCv S d m o) (vCv S (S 29 d)) (S 3 1).toNat (-1, -1, 0) 0 0 0
def o_cover (S : St) (d m o w : Int) : R3 := if 0 ≤ d ∧ d < S 3 2 then (if ((0 ≤ m ∧ m ≤ 9999) ∧ (0 ≤ o ∧ o ≤ 2)) ∧ (0 ≤ w ∧ w ≤ 1) then (0, (if w = 0 then (coverR S d m o).2.1 else (coverR S d m o).1), S) else (2, 0, rf S 1)) else (1, 0, rf S 0)
theorem bt_1 {x j : Nat} : bt x j = 0 ∨ bt x j = 1 := by unfold bt; omega
theorem bt_le (x j : Nat) : bt x j ≤ 1 := by unfold bt; omega
theorem pc_le (x : Nat) : pc12 x ≤ 12 := by
  have h0 := bt_le x 0; have h1 := bt_le x 1; have h2 := bt_le x 2; have h3 := bt_le x 3; have h4 := bt_le x 4; have h5 := bt_le x 5
  have h6 := bt_le x 6; have h7 := bt_le x 7; have h8 := bt_le x 8; have h9 := bt_le x 9; have h10 := bt_le x 10; have h11 := bt_le x 11
  unfold pc12
  omega
/-- the bits that a set of places stands for -/
def mkS (gd : Int → Int) (x : Nat) : Nat → Int
  | 0 => 0
  | i + 1 => mkS gd x i + if bt x i = 1 then 2 ^ (gd i).toNat else 0
theorem mkS_at {gd : Int → Int} {x i : Nat} (hx : x < 4096) (hi : i < 12) (hm : x % 2 ^ (i + 1) = 2 ^ i) : ∀ k, k ≤ 12 → mkS gd x k = mkS gd (x - 2 ^ i) k + if i < k then 2 ^ (gd i).toNat else 0 := by
  have h1 := all64_is tb3 hx
  have h2 := List.all_eq_true.mp h1 i (List.mem_range.mpr hi)
  simp only [hm, not_true_eq_false, decide_false, Bool.false_or] at h2
  intro k
  induction k with
  | zero => intro _; simp [mkS]
  | succ k ih =>
    intro hk
    have h3 := List.all_eq_true.mp h2 k (List.mem_range.mpr (by omega))
    simp only [decide_eq_true_eq] at h3
    have h4 := ih (by omega)
    have h5 := bt_1 (x := x) (j := k)
    have h6 := bt_1 (x := x - 2 ^ i) (j := k)
    simp only [mkS]
    rw [h4]
    by_cases e : k = i
    · subst e
      rw [if_pos rfl] at h3
      have h7 : bt x k = 1 := by omega
      have h8 : bt (x - 2 ^ k) k = 0 := by omega
      simp only [h7, h8, Nat.lt_irrefl, if_false, if_true, Nat.lt_succ_self, Nat.zero_ne_one]
      try omega
    · rw [if_neg e, Nat.add_zero] at h3
      rw [h3]
      generalize (2 : Int) ^ (gd i).toNat = A
      generalize (2 : Int) ^ (gd k).toNat = B
      by_cases e2 : i < k
      · have e3 : i < k + 1 := by omega
        simp only [e2, e3, if_true]
        omega
      · have e3 : ¬ i < k + 1 := by omega
        simp only [e2, e3, if_false]
        omega
theorem pc_at {x i : Nat} (hx : x < 4096) (hi : i < 12) (hm : x % 2 ^ (i + 1) = 2 ^ i) : pc12 x = pc12 (x - 2 ^ i) + 1 := by
  have h1 := all64_is tb3 hx
  have h2 := List.all_eq_true.mp h1 i (List.mem_range.mpr hi)
  simp only [hm, not_true_eq_false, decide_false, Bool.false_or] at h2
  have h3 : ∀ j, j < 12 → bt x j = bt (x - 2 ^ i) j + if j = i then 1 else 0 := fun j hj => by
    have h3 := List.all_eq_true.mp h2 j (List.mem_range.mpr hj)
    simpa using h3
  unfold pc12
  rw [h3 0 (by decide), h3 1 (by decide), h3 2 (by decide), h3 3 (by decide), h3 4 (by decide), h3 5 (by decide), h3 6 (by decide), h3 7 (by decide), h3 8 (by decide), h3 9 (by decide), h3 10 (by decide), h3 11 (by decide)]
  have hi2 : i = 0 ∨ i = 1 ∨ i = 2 ∨ i = 3 ∨ i = 4 ∨ i = 5 ∨ i = 6 ∨ i = 7 ∨ i = 8 ∨ i = 9 ∨ i = 10 ∨ i = 11 := by omega
  rcases hi2 with h | h | h | h | h | h | h | h | h | h | h | h <;> subst h <;> simp <;> omega
theorem mkS_pos {gd : Int → Int} {x : Nat} : ∀ k, 0 ≤ mkS gd x k := by
  intro k
  induction k with
  | zero => simp [mkS]
  | succ k ih =>
    simp only [mkS]
    split
    · have : (0 : Int) ≤ 2 ^ (gd k).toNat := Int.pow_nonneg (by decide)
      omega
    · omega
section C55
variable {Q : MOut → MHp → Prop} {X : Nat × (Nat → Int32)} {s : Bool × Bool} {dh dl t : Nat} {M : Mem} {S : St}
theorem C200 {x : Int} {h : MHp} : CL 200 [vI x] h Q ↔ Q (rI (bcI x)) h := by
  simp only [↓x_il_0, ↓x_c, ↓x_iushr, ↓x_iand, ↓x_isub, ↓x_is_0, ↓x_iadd, ↓x_ir, ↓n_200, ↓s_200_0, ↓pv_i, ↓pv_r, ↓pv_0, ↓pv_l, wz_pk, wz_ti, wz_wz, vI_wz, wz_id, wz_0, List.length_cons, List.length_nil, ↓reduceIte, true_and, and_true, Int.reduceLE, Int.reduceLT, Int.reduceEq, not_true_eq_false, not_false_eq_true, false_or, or_false, true_or, or_true, ite_not, Int.reduceNeg, Int32.reduceToInt, Nat.reduceAdd, Nat.reduceLeDiff, Nat.reduceLT, Nat.reduceEqDiff, Int.reduceAdd, Int.reduceSub, Int.reduceMul, Nat.zero_le, pk_po_ne, pk_po_eq, pk_po_ix, rI, ne_eq]
  exact Iff.rfl
theorem C200b {x : Nat} {h : MHp} (hx : x < 4096) : CL 200 [vI (x : Int)] h Q ↔ Q (rI (pc12 x)) h := by
  have h1 := all64_is tb1 hx
  simp only [decide_eq_true_eq] at h1
  rw [C200, h1]
theorem low_at {x i : Nat} (hx : x < 4096) (hi : i < 12) (hm : x % 2 ^ (i + 1) = 2 ^ i) : bcI (iand (x : Int) (-(x : Int)) - 1) = i := by
  have h1 := all64_is tb2 hx
  have h2 := List.all_eq_true.mp h1 i (List.mem_range.mpr hi)
  simp only [hm, not_true_eq_false, decide_false, Bool.false_or, decide_eq_true_eq] at h2
  exact h2
theorem shl_at {k : Nat} (hk : k ≤ 12) : ishl 1 (k : Int) = 2 ^ k := by
  have h2 := List.all_eq_true.mp tb5 k (List.mem_range.mpr (by omega))
  simpa using h2
theorem shr_at {x j : Nat} (hx : x < 4096) (hj : j < 12) : iand (ishr (x : Int) (j : Int)) 1 = bt x j := by
  have h1 := all64_is tb6 hx
  have h2 := List.all_eq_true.mp h1 j (List.mem_range.mpr hj)
  simpa using h2
theorem or_at {g x : Nat} (hg : g < 12) (hx : x < 2 ^ g) : ior (x : Int) (ishl 1 (g : Int)) = x + 2 ^ g := by
  have h2 := allP_is tb4 hg hx
  simpa using h2
theorem C11 : CL 11 [.ref 100] (mkh X s dh dl t M) Q ↔ Q (.inl none) (mkh X s dh dl t (po (po M 100 2 0) 100 6 0)) := by
  simp only [↓x_al_0, ↓x_c, ↓pi_100_2, ↓pi_100_6, ↓x_rt, ↓n_11, ↓s_11_0, ↓pv_i, ↓pv_r, ↓pv_0, ↓pv_l, wz_pk, wz_ti, wz_wz, vI_wz, wz_id, wz_0, List.length_cons, List.length_nil, ↓reduceIte, true_and, and_true, Int.reduceLE, Int.reduceLT, Int.reduceEq, not_true_eq_false, not_false_eq_true, false_or, or_false, true_or, or_true, ite_not, Int.reduceNeg, Int32.reduceToInt, Nat.reduceAdd, Nat.reduceLeDiff, Nat.reduceLT, Nat.reduceEqDiff, Int.reduceAdd, Int.reduceSub, Int.reduceMul, Nat.zero_le, pk_po_ne, pk_po_eq, pk_po_ix, rI, ne_eq]
theorem C12 {g v k a : Int} (hk : pk M 100 2 = k) (h0 : 0 ≤ k ∧ k < 12) (ha : pk M 100 6 = a) : CL 12 [.ref 100, vI g, vI v] (mkh X s dh dl t M) Q ↔ Q (.inl none) (mkh X s dh dl t (po (po (po (po (po M 101 k g) 102 k v) 103 k a) 100 6 (a + v)) 100 2 (k + 1))) := by
  have e1 : ¬ 12 ≤ k := by omega
  have e2 : k < 12 := h0.2
  have e3 : 0 ≤ k := h0.1
  simp (disch := omega) only [↓x_al_0, ↓gi_100_2, ↓x_c, ↓x_ge, ↓gr_100_3, ↓x_il_1, ↓gr_100_4, ↓x_il_2, ↓gr_100_5, ↓gi_100_6, ↓x_dup_i, ↓x_dup_r, ↓x_iadd, ↓pi_100_6, ↓pi_100_2, ↓x_rt, ↓st_101, ↓st_102, ↓st_103, ↓n_12, ↓s_12_0, ↓s_12_62, ↓pv_i, ↓pv_r, ↓pv_0, ↓pv_l, wz_pk, wz_ti, wz_wz, vI_wz, wz_id, wz_0, List.length_cons, List.length_nil, ↓reduceIte, true_and, and_true, Int.reduceLE, Int.reduceLT, Int.reduceEq, not_true_eq_false, not_false_eq_true, false_or, or_false, true_or, or_true, ite_not, Int.reduceNeg, Int32.reduceToInt, Nat.reduceAdd, Nat.reduceLeDiff, Nat.reduceLT, Nat.reduceEqDiff, Int.reduceAdd, Int.reduceSub, Int.reduceMul, Nat.zero_le, pk_po_ne, pk_po_eq, pk_po_ix, rI, ne_eq, hk, ha, e1, e2, e3, if_false]
theorem C14 {k x : Nat} (hk : pk M 100 2 = k) (h12 : k ≤ 12) (hx : x < 4096) (hg : ∀ i : Nat, i < k → 0 ≤ pk M 101 i ∧ pk M 101 i < 12) (hm : ∀ i j : Nat, i < j → j < k → pk M 101 i < pk M 101 j) : CL 14 [.ref 100, vI (x : Int)] (mkh X s dh dl t M) Q ↔ Q (rI (mkS (fun i => pk M 101 i) x k)) (mkh X s dh dl t M) := by
  have bnd : ∀ i : Nat, i ≤ k → ∀ g : Nat, (∀ j : Nat, j < i → pk M 101 j < g) → mkS (fun i => pk M 101 i) x i < 2 ^ g := by
    intro i
    induction i with
    | zero => intro _ g _; simp only [mkS]; exact Int.pow_pos (by decide)
    | succ i ih =>
      intro hi g hgj
      have h1 := hgj i (by omega)
      have h2 := hg i (by omega)
      have h3 := ih (by omega) (pk M 101 i).toNat (fun j hj => by have := hm j i hj (by omega); omega)
      have h4 : (2 : Int) ^ ((pk M 101 i).toNat + 1) ≤ 2 ^ g := by
        have : (pk M 101 i).toNat + 1 ≤ g := by omega
        exact_mod_cast Nat.pow_le_pow_right (by decide) this
      rw [Int.pow_succ] at h4
      have h5 : (0 : Int) < 2 ^ (pk M 101 i).toNat := Int.pow_pos (by decide)
      simp only [mkS]
      split <;> omega
  have key : EX 14 (sx 14 4) [.ref 100, vI (x : Int), vI (mkS (fun i => pk M 101 i) x (0 : Nat)), vI ((0 : Nat) : Int)] [] (mkh X s dh dl t M) Q ↔ Q (rI (mkS (fun i => pk M 101 i) x k)) (mkh X s dh dl t M) := by
    refine lp (n := k) (fun i => EX 14 (sx 14 4) [.ref 100, vI (x : Int), vI (mkS (fun i => pk M 101 i) x i), vI (i : Int)] [] (mkh X s dh dl t M) Q ↔ _) ?_ ?_
    · rw [s_14_4]
      simp (disch := omega) only [↓x_c, ↓x_is_2, ↓x_is_3, ↓x_il_3, ↓x_al_0, ↓gi_100_2, ↓x_ge, ↓x_il_1, ↓x_ishr, ↓x_iand, ↓x_eq0, ↓x_il_2, ↓gr_100_3, ↓x_ishl, ↓x_ior, ↓x_inc_3, ↓x_go, ↓x_ir, ↓ld_101, ↓n_14, ↓s_14_0, ↓s_14_31, ↓s_14_37, ↓pv_i, ↓pv_r, ↓pv_0, ↓pv_l, wz_pk, wz_ti, wz_wz, vI_wz, wz_id, wz_0, List.length_cons, List.length_nil, ↓reduceIte, true_and, and_true, Int.reduceLE, Int.reduceLT, Int.reduceEq, not_true_eq_false, not_false_eq_true, false_or, or_false, true_or, or_true, ite_not, Int.reduceNeg, Int32.reduceToInt, Nat.reduceAdd, Nat.reduceLeDiff, Nat.reduceLT, Nat.reduceEqDiff, Int.reduceAdd, Int.reduceSub, Int.reduceMul, Nat.zero_le, pk_po_ne, pk_po_eq, pk_po_ix, rI, ne_eq, hk, Int.le_refl, if_true]
    · intro i hi ih
      have e1 : ¬ (k : Int) ≤ i := by omega
      have e2 : (i : Int) < 12 := by omega
      have e3 : (0 : Int) ≤ i := by omega
      have e4 := shr_at (x := x) (j := i) hx (by omega)
      have e5 := hg i hi
      simp only [mkS] at ih
      rw [s_14_4]
      by_cases c1 : bt x i = 1
      · rw [if_pos c1] at ih
        have e6 := bnd i (by omega) (pk M 101 i).toNat (fun j hj => by have := hm j i hj (by omega); omega)
        have e7 := mkS_pos (gd := fun i => pk M 101 i) (x := x) i
        have e8 := or_at (g := (pk M 101 i).toNat) (x := (mkS (fun i => pk M 101 i) x i).toNat) (by omega) (by
          have : ((mkS (fun i => pk M 101 i) x i).toNat : Int) < ((2 ^ (pk M 101 i).toNat : Nat) : Int) := by
            rw [Int.toNat_of_nonneg e7]
            exact_mod_cast e6
          exact_mod_cast this)
        rw [Int.toNat_of_nonneg e7, Int.toNat_of_nonneg e5.1] at e8
        simp (disch := omega) only [↓x_c, ↓x_is_2, ↓x_is_3, ↓x_il_3, ↓x_al_0, ↓gi_100_2, ↓x_ge, ↓x_il_1, ↓x_ishr, ↓x_iand, ↓x_eq0, ↓x_il_2, ↓gr_100_3, ↓x_ishl, ↓x_ior, ↓x_inc_3, ↓x_go, ↓x_ir, ↓ld_101, ↓n_14, ↓s_14_0, ↓s_14_31, ↓s_14_37, ↓pv_i, ↓pv_r, ↓pv_0, ↓pv_l, wz_pk, wz_ti, wz_wz, vI_wz, wz_id, wz_0, List.length_cons, List.length_nil, ↓reduceIte, true_and, and_true, Int.reduceLE, Int.reduceLT, Int.reduceEq, not_true_eq_false, not_false_eq_true, false_or, or_false, true_or, or_true, ite_not, Int.reduceNeg, Int32.reduceToInt, Nat.reduceAdd, Nat.reduceLeDiff, Nat.reduceLT, Nat.reduceEqDiff, Int.reduceAdd, Int.reduceSub, Int.reduceMul, Nat.zero_le, pk_po_ne, pk_po_eq, pk_po_ix, rI, ne_eq, hk, e1, e2, e3, if_false, e4, c1, e8]
        exact ih
      · have c2 : bt x i = 0 := by have := bt_1 (x := x) (j := i); omega
        rw [if_neg c1, Int.add_zero] at ih
        simp (disch := omega) only [↓x_c, ↓x_is_2, ↓x_is_3, ↓x_il_3, ↓x_al_0, ↓gi_100_2, ↓x_ge, ↓x_il_1, ↓x_ishr, ↓x_iand, ↓x_eq0, ↓x_il_2, ↓gr_100_3, ↓x_ishl, ↓x_ior, ↓x_inc_3, ↓x_go, ↓x_ir, ↓ld_101, ↓n_14, ↓s_14_0, ↓s_14_31, ↓s_14_37, ↓pv_i, ↓pv_r, ↓pv_0, ↓pv_l, wz_pk, wz_ti, wz_wz, vI_wz, wz_id, wz_0, List.length_cons, List.length_nil, ↓reduceIte, true_and, and_true, Int.reduceLE, Int.reduceLT, Int.reduceEq, not_true_eq_false, not_false_eq_true, false_or, or_false, true_or, or_true, ite_not, Int.reduceNeg, Int32.reduceToInt, Nat.reduceAdd, Nat.reduceLeDiff, Nat.reduceLT, Nat.reduceEqDiff, Int.reduceAdd, Int.reduceSub, Int.reduceMul, Nat.zero_le, pk_po_ne, pk_po_eq, pk_po_ix, rI, ne_eq, hk, e1, e2, e3, if_false, e4, c2, if_true]
        exact ih
  simp only [↓x_c, ↓x_is_2, ↓x_is_3, ↓x_il_3, ↓x_al_0, ↓gi_100_2, ↓x_ge, ↓x_il_1, ↓x_ishr, ↓x_iand, ↓x_eq0, ↓x_il_2, ↓gr_100_3, ↓x_ishl, ↓x_ior, ↓x_inc_3, ↓x_go, ↓x_ir, ↓ld_101, ↓n_14, ↓s_14_0, ↓s_14_31, ↓s_14_37, ↓pv_i, ↓pv_r, ↓pv_0, ↓pv_l, wz_pk, wz_ti, wz_wz, vI_wz, wz_id, wz_0, List.length_cons, List.length_nil, ↓reduceIte, true_and, and_true, Int.reduceLE, Int.reduceLT, Int.reduceEq, not_true_eq_false, not_false_eq_true, false_or, or_false, true_or, or_true, ite_not, Int.reduceNeg, Int32.reduceToInt, Nat.reduceAdd, Nat.reduceLeDiff, Nat.reduceLT, Nat.reduceEqDiff, Int.reduceAdd, Int.reduceSub, Int.reduceMul, Nat.zero_le, pk_po_ne, pk_po_eq, pk_po_ix, rI, ne_eq]
  exact key
def RA (gd : Int → Int) (k : Nat) (bs : Nat) (bsum : Int) (A : Int × Int × Int) : Prop := bs < 4096 ∧ A.1 = (if bs = 0 then -1 else mkS gd bs k) ∧ A.2.1 = bsum ∧ (bs ≠ 0 → A.2.2 = pc12 bs) ∧ (-600000 ≤ bsum ∧ bsum ≤ 600000)
theorem RA.st {gd : Int → Int} {k x bs : Nat} {bsum u need : Int} {A : Int × Int × Int} (h : RA gd k bs bsum A) (hx : x < 4096) (hx0 : x ≠ 0) (hu : -600000 ≤ u ∧ u ≤ 600000) : (u < need ∧ cvS need A (mkS gd x k) u (pc12 x) = A) ∨ (¬ u < need ∧ (bs = 0 ∨ u < bsum ∨ (u = bsum ∧ pc12 x < pc12 bs)) ∧ RA gd k x u (cvS need A (mkS gd x k) u (pc12 x))) ∨ (¬ u < need ∧ ¬ (bs = 0 ∨ u < bsum ∨ (u = bsum ∧ pc12 x < pc12 bs)) ∧ cvS need A (mkS gd x k) u (pc12 x) = A) := by
  obtain ⟨h1, h2, h3, h4, h5⟩ := h
  unfold cvS
  by_cases c1 : u < need
  · left; rw [if_pos c1]; exact ⟨c1, rfl⟩
  · right
    rw [if_neg c1]
    have e1 : (A.1 = -1) ↔ bs = 0 := by
      have := mkS_pos (gd := gd) (x := bs) k
      rw [h2]
      by_cases hb : bs = 0
      · rw [if_pos hb]; simp [hb]
      · rw [if_neg hb]; simp [hb]; omega
    have e2 : (A.1 = -1 ∨ u < A.2.1 ∨ (u = A.2.1 ∧ ((pc12 x : Nat) : Int) < A.2.2)) ↔ (bs = 0 ∨ u < bsum ∨ (u = bsum ∧ pc12 x < pc12 bs)) := by
      rw [e1, h3]
      by_cases hb : bs = 0
      · simp [hb]
      · rw [h4 hb]
        omega
    by_cases c2 : bs = 0 ∨ u < bsum ∨ (u = bsum ∧ pc12 x < pc12 bs)
    · left
      rw [if_pos (e2.mpr c2)]
      exact ⟨c1, c2, hx, by rw [if_neg hx0], rfl, fun _ => rfl, hu⟩
    · right
      rw [if_neg (fun h => c2 (e2.mp h))]
      exact ⟨c1, c2, rfl⟩
theorem C13s {k i x bs : Nat} {need bsum u w : Int} {A : Int × Int × Int} {b6 b7 : Value} (hk : pk M 100 2 = k) (h12 : k ≤ 12) (hx : x < 2 ^ k) (hi : i < k) (hm : x % 2 ^ (i + 1) = 2 ^ i) (hn : wz need = need) (hA : RA (fun i => pk M 101 i) k bs bsum A) (hw : u + (pk M 102 i - pk M 103 i) = w) (hwr : -600000 ≤ w ∧ w ≤ 600000)
    (hQ : ∀ bs' bsum' b6' b7', RA (fun i => pk M 101 i) k bs' bsum' (cvS need A (mkS (fun i => pk M 101 i) x k) w (pc12 x)) → EX 13 (sx 13 10) [.ref 100, vI need, vI (bs' : Nat), vI bsum', vI w, vI ((x : Int) + 1), b6', b7'] [] (mkh X s dh dl t M) Q) : EX 13 (sx 13 10) [.ref 100, vI need, vI (bs : Nat), vI bsum, vI u, vI (x : Int), b6, b7] [] (mkh X s dh dl t M) Q := by
  have hpow : (2 : Nat) ^ k ≤ 4096 := by
    have : (2 : Nat) ^ k ≤ 2 ^ 12 := Nat.pow_le_pow_right (by decide) h12
    omega
  have hx4 : x < 4096 := by omega
  have hx0 : x ≠ 0 := by
    rintro rfl
    have : (0 : Nat) < 2 ^ i := Nat.pow_pos (by decide)
    rw [Nat.zero_mod] at hm
    omega
  have e1 : ¬ (2 : Int) ^ k ≤ x := by
    have : ((2 ^ k : Nat) : Int) = 2 ^ k := by exact_mod_cast rfl
    omega
  have e2 := shl_at h12
  have wp : wz ((2 : Int) ^ k) = 2 ^ k := by
    have : ((2 ^ k : Nat) : Int) = 2 ^ k := by exact_mod_cast rfl
    rw [← this]
    exact wz_id (by omega) (by omega)
  have e3 := low_at hx4 (by omega : i < 12) hm
  have e4 : (i : Int) < 12 := by omega
  have e5 : (0 : Int) ≤ i := by omega
  have hA2 := hA
  obtain ⟨a1, a2, a3, a4, a5⟩ := hA2
  have hp1 := pc_le x
  have hp2 := pc_le bs
  have cx := fun (Q' : MOut → MHp → Prop) (h : MHp) => C200b (Q := Q') (h := h) hx4
  have cb := fun (Q' : MOut → MHp → Prop) (h : MHp) => C200b (Q := Q') (h := h) a1
  have tail : ∀ b : Int, b = 0 ∨ b = 1 → (b = 1 ↔ (bs = 0 ∨ w < bsum ∨ (w = bsum ∧ pc12 x < pc12 bs))) → EX 13 (sx 13 87) [.ref 100, vI need, vI (bs : Nat), vI bsum, vI w, vI (x : Int), vI (i : Int), b7] [vI b] (mkh X s dh dl t M) Q := by
    intro b hb hbi
    rw [s_13_87]
    rcases hA.st (need := need) hx4 hx0 hwr with ⟨c1, c2⟩ | ⟨c1, c2, c3⟩ | ⟨c1, c2, c3⟩
    · have e := hQ bs bsum (vI i) (vI b) (by rw [c2]; exact hA)
      simp (disch := omega) only [↓x_c, ↓x_is_2, ↓x_is_3, ↓x_is_4, ↓x_is_5, ↓x_il_5, ↓x_al_0, ↓gi_100_2, ↓x_ishl, ↓x_ge, ↓x_ineg, ↓x_iand, ↓x_isub, ↓c_200, ↓x_is_6, ↓x_il_4, ↓gr_100_4, ↓x_il_6, ↓gr_100_5, ↓x_iadd, ↓x_il_2, ↓x_eq0, ↓x_il_3, ↓x_lt, ↓x_ne, ↓x_go, ↓x_is_7, ↓x_il_1, ↓x_il_7, ↓x_inc_5, ↓pi_100_0, ↓x_ne0, ↓c_14, ↓pi_100_1, ↓x_rt, ↓ld_102, ↓ld_103, ↓n_13, ↓s_13_0, ↓s_13_82, ↓s_13_86, ↓s_13_87, ↓s_13_106, ↓s_13_112, ↓s_13_126, ↓s_13_131, ↓bk_v, ↓bk_n, ↓bk_r, ↓pv_i, ↓pv_r, ↓pv_0, ↓pv_l, wz_pk, wz_ti, wz_wz, vI_wz, wz_id, wz_0, List.length_cons, List.length_nil, ↓reduceIte, true_and, and_true, Int.reduceLE, Int.reduceLT, Int.reduceEq, not_true_eq_false, not_false_eq_true, false_or, or_false, true_or, or_true, ite_not, Int.reduceNeg, Int32.reduceToInt, Nat.reduceAdd, Nat.reduceLeDiff, Nat.reduceLT, Nat.reduceEqDiff, Int.reduceAdd, Int.reduceSub, Int.reduceMul, Nat.zero_le, pk_po_ne, pk_po_eq, pk_po_ix, rI, ne_eq, hn, c1, if_true]
      exact e
    · have e := hQ x w (vI i) (vI 1) c3
      have hb1 := hbi.mpr c2
      subst hb1
      simp (disch := omega) only [↓x_c, ↓x_is_2, ↓x_is_3, ↓x_is_4, ↓x_is_5, ↓x_il_5, ↓x_al_0, ↓gi_100_2, ↓x_ishl, ↓x_ge, ↓x_ineg, ↓x_iand, ↓x_isub, ↓c_200, ↓x_is_6, ↓x_il_4, ↓gr_100_4, ↓x_il_6, ↓gr_100_5, ↓x_iadd, ↓x_il_2, ↓x_eq0, ↓x_il_3, ↓x_lt, ↓x_ne, ↓x_go, ↓x_is_7, ↓x_il_1, ↓x_il_7, ↓x_inc_5, ↓pi_100_0, ↓x_ne0, ↓c_14, ↓pi_100_1, ↓x_rt, ↓ld_102, ↓ld_103, ↓n_13, ↓s_13_0, ↓s_13_82, ↓s_13_86, ↓s_13_87, ↓s_13_106, ↓s_13_112, ↓s_13_126, ↓s_13_131, ↓bk_v, ↓bk_n, ↓bk_r, ↓pv_i, ↓pv_r, ↓pv_0, ↓pv_l, wz_pk, wz_ti, wz_wz, vI_wz, wz_id, wz_0, List.length_cons, List.length_nil, ↓reduceIte, true_and, and_true, Int.reduceLE, Int.reduceLT, Int.reduceEq, not_true_eq_false, not_false_eq_true, false_or, or_false, true_or, or_true, ite_not, Int.reduceNeg, Int32.reduceToInt, Nat.reduceAdd, Nat.reduceLeDiff, Nat.reduceLT, Nat.reduceEqDiff, Int.reduceAdd, Int.reduceSub, Int.reduceMul, Nat.zero_le, pk_po_ne, pk_po_eq, pk_po_ix, rI, ne_eq, hn, c1, if_false]
      exact e
    · have e := hQ bs bsum (vI i) (vI 0) (by rw [c3]; exact hA)
      have hb1 : b = 0 := by
        rcases hb with h | h
        · exact h
        · exact absurd (hbi.mp h) c2
      subst hb1
      simp (disch := omega) only [↓x_c, ↓x_is_2, ↓x_is_3, ↓x_is_4, ↓x_is_5, ↓x_il_5, ↓x_al_0, ↓gi_100_2, ↓x_ishl, ↓x_ge, ↓x_ineg, ↓x_iand, ↓x_isub, ↓c_200, ↓x_is_6, ↓x_il_4, ↓gr_100_4, ↓x_il_6, ↓gr_100_5, ↓x_iadd, ↓x_il_2, ↓x_eq0, ↓x_il_3, ↓x_lt, ↓x_ne, ↓x_go, ↓x_is_7, ↓x_il_1, ↓x_il_7, ↓x_inc_5, ↓pi_100_0, ↓x_ne0, ↓c_14, ↓pi_100_1, ↓x_rt, ↓ld_102, ↓ld_103, ↓n_13, ↓s_13_0, ↓s_13_82, ↓s_13_86, ↓s_13_87, ↓s_13_106, ↓s_13_112, ↓s_13_126, ↓s_13_131, ↓bk_v, ↓bk_n, ↓bk_r, ↓pv_i, ↓pv_r, ↓pv_0, ↓pv_l, wz_pk, wz_ti, wz_wz, vI_wz, wz_id, wz_0, List.length_cons, List.length_nil, ↓reduceIte, true_and, and_true, Int.reduceLE, Int.reduceLT, Int.reduceEq, not_true_eq_false, not_false_eq_true, false_or, or_false, true_or, or_true, ite_not, Int.reduceNeg, Int32.reduceToInt, Nat.reduceAdd, Nat.reduceLeDiff, Nat.reduceLT, Nat.reduceEqDiff, Int.reduceAdd, Int.reduceSub, Int.reduceMul, Nat.zero_le, pk_po_ne, pk_po_eq, pk_po_ix, rI, ne_eq, hn, c1, if_false, if_true]
      exact e
  have t1 := fun h => tail 1 (Or.inr rfl) ⟨fun _ => h, fun _ => rfl⟩
  have t0 := fun h => tail 0 (Or.inl rfl) ⟨fun h1 => by omega, fun h1 => absurd h1 h⟩
  have bs0 : ((bs : Int) = 0) = (bs = 0) := by simp
  have low : ∀ (Q' : MOut → MHp → Prop) (h : MHp), CL 200 [vI (iand (x : Int) (-(x : Int)) - 1)] h Q' ↔ Q' (rI (i : Int)) h := fun Q' h => by rw [C200, e3]
  rw [s_13_10]
  by_cases c1 : bs = 0
  · subst c1
    simp (disch := omega) only [↓x_c, ↓x_is_2, ↓x_is_3, ↓x_is_4, ↓x_is_5, ↓x_il_5, ↓x_al_0, ↓gi_100_2, ↓x_ishl, ↓x_ge, ↓x_ineg, ↓x_iand, ↓x_isub, ↓c_200, ↓x_is_6, ↓x_il_4, ↓gr_100_4, ↓x_il_6, ↓gr_100_5, ↓x_iadd, ↓x_il_2, ↓x_eq0, ↓x_il_3, ↓x_lt, ↓x_ne, ↓x_go, ↓x_is_7, ↓x_il_1, ↓x_il_7, ↓x_inc_5, ↓pi_100_0, ↓x_ne0, ↓c_14, ↓pi_100_1, ↓x_rt, ↓ld_102, ↓ld_103, ↓n_13, ↓s_13_0, ↓s_13_82, ↓s_13_86, ↓s_13_106, ↓s_13_112, ↓s_13_126, ↓s_13_131, ↓bk_v, ↓bk_n, ↓bk_r, ↓pv_i, ↓pv_r, ↓pv_0, ↓pv_l, wz_pk, wz_ti, wz_wz, vI_wz, wz_id, wz_0, List.length_cons, List.length_nil, ↓reduceIte, true_and, and_true, Int.reduceLE, Int.reduceLT, Int.reduceEq, not_true_eq_false, not_false_eq_true, false_or, or_false, true_or, or_true, ite_not, Int.reduceNeg, Int32.reduceToInt, Nat.reduceAdd, Nat.reduceLeDiff, Nat.reduceLT, Nat.reduceEqDiff, Int.reduceAdd, Int.reduceSub, Int.reduceMul, Nat.zero_le, pk_po_ne, pk_po_eq, pk_po_ix, rI, ne_eq, hk, e2, wp, e1, if_false, ↓low, e4, e5, hw, if_true]
    exact t1 (Or.inl rfl)
  · have c1' : ¬ (bs : Int) = 0 := by omega
    by_cases c2 : w < bsum
    · simp (disch := omega) only [↓x_c, ↓x_is_2, ↓x_is_3, ↓x_is_4, ↓x_is_5, ↓x_il_5, ↓x_al_0, ↓gi_100_2, ↓x_ishl, ↓x_ge, ↓x_ineg, ↓x_iand, ↓x_isub, ↓c_200, ↓x_is_6, ↓x_il_4, ↓gr_100_4, ↓x_il_6, ↓gr_100_5, ↓x_iadd, ↓x_il_2, ↓x_eq0, ↓x_il_3, ↓x_lt, ↓x_ne, ↓x_go, ↓x_is_7, ↓x_il_1, ↓x_il_7, ↓x_inc_5, ↓pi_100_0, ↓x_ne0, ↓c_14, ↓pi_100_1, ↓x_rt, ↓ld_102, ↓ld_103, ↓n_13, ↓s_13_0, ↓s_13_82, ↓s_13_86, ↓s_13_106, ↓s_13_112, ↓s_13_126, ↓s_13_131, ↓bk_v, ↓bk_n, ↓bk_r, ↓pv_i, ↓pv_r, ↓pv_0, ↓pv_l, wz_pk, wz_ti, wz_wz, vI_wz, wz_id, wz_0, List.length_cons, List.length_nil, ↓reduceIte, true_and, and_true, Int.reduceLE, Int.reduceLT, Int.reduceEq, not_true_eq_false, not_false_eq_true, false_or, or_false, true_or, or_true, ite_not, Int.reduceNeg, Int32.reduceToInt, Nat.reduceAdd, Nat.reduceLeDiff, Nat.reduceLT, Nat.reduceEqDiff, Int.reduceAdd, Int.reduceSub, Int.reduceMul, Nat.zero_le, pk_po_ne, pk_po_eq, pk_po_ix, rI, ne_eq, hk, e2, wp, e1, if_false, ↓low, e4, e5, hw, c1', c2, if_true]
      exact t1 (Or.inr (Or.inl c2))
    · by_cases c3 : w = bsum
      · by_cases c4 : pc12 x < pc12 bs
        · have c5 : ¬ ((pc12 bs : Nat) : Int) ≤ (pc12 x : Nat) := by omega
          subst c3
          simp (disch := omega) only [↓x_c, ↓x_is_2, ↓x_is_3, ↓x_is_4, ↓x_is_5, ↓x_il_5, ↓x_al_0, ↓gi_100_2, ↓x_ishl, ↓x_ge, ↓x_ineg, ↓x_iand, ↓x_isub, ↓c_200, ↓x_is_6, ↓x_il_4, ↓gr_100_4, ↓x_il_6, ↓gr_100_5, ↓x_iadd, ↓x_il_2, ↓x_eq0, ↓x_il_3, ↓x_lt, ↓x_ne, ↓x_go, ↓x_is_7, ↓x_il_1, ↓x_il_7, ↓x_inc_5, ↓pi_100_0, ↓x_ne0, ↓c_14, ↓pi_100_1, ↓x_rt, ↓ld_102, ↓ld_103, ↓n_13, ↓s_13_0, ↓s_13_82, ↓s_13_86, ↓s_13_106, ↓s_13_112, ↓s_13_126, ↓s_13_131, ↓bk_v, ↓bk_n, ↓bk_r, ↓pv_i, ↓pv_r, ↓pv_0, ↓pv_l, wz_pk, wz_ti, wz_wz, vI_wz, wz_id, wz_0, List.length_cons, List.length_nil, ↓reduceIte, true_and, and_true, Int.reduceLE, Int.reduceLT, Int.reduceEq, not_true_eq_false, not_false_eq_true, false_or, or_false, true_or, or_true, ite_not, Int.reduceNeg, Int32.reduceToInt, Nat.reduceAdd, Nat.reduceLeDiff, Nat.reduceLT, Nat.reduceEqDiff, Int.reduceAdd, Int.reduceSub, Int.reduceMul, Nat.zero_le, pk_po_ne, pk_po_eq, pk_po_ix, rI, ne_eq, hk, e2, wp, e1, if_false, ↓low, e4, e5, hw, c1', c2, if_true, ↓cx, ↓cb, c5]
          exact t1 (Or.inr (Or.inr ⟨rfl, c4⟩))
        · have c5 : ((pc12 bs : Nat) : Int) ≤ (pc12 x : Nat) := by omega
          subst c3
          simp (disch := omega) only [↓x_c, ↓x_is_2, ↓x_is_3, ↓x_is_4, ↓x_is_5, ↓x_il_5, ↓x_al_0, ↓gi_100_2, ↓x_ishl, ↓x_ge, ↓x_ineg, ↓x_iand, ↓x_isub, ↓c_200, ↓x_is_6, ↓x_il_4, ↓gr_100_4, ↓x_il_6, ↓gr_100_5, ↓x_iadd, ↓x_il_2, ↓x_eq0, ↓x_il_3, ↓x_lt, ↓x_ne, ↓x_go, ↓x_is_7, ↓x_il_1, ↓x_il_7, ↓x_inc_5, ↓pi_100_0, ↓x_ne0, ↓c_14, ↓pi_100_1, ↓x_rt, ↓ld_102, ↓ld_103, ↓n_13, ↓s_13_0, ↓s_13_82, ↓s_13_86, ↓s_13_106, ↓s_13_112, ↓s_13_126, ↓s_13_131, ↓bk_v, ↓bk_n, ↓bk_r, ↓pv_i, ↓pv_r, ↓pv_0, ↓pv_l, wz_pk, wz_ti, wz_wz, vI_wz, wz_id, wz_0, List.length_cons, List.length_nil, ↓reduceIte, true_and, and_true, Int.reduceLE, Int.reduceLT, Int.reduceEq, not_true_eq_false, not_false_eq_true, false_or, or_false, true_or, or_true, ite_not, Int.reduceNeg, Int32.reduceToInt, Nat.reduceAdd, Nat.reduceLeDiff, Nat.reduceLT, Nat.reduceEqDiff, Int.reduceAdd, Int.reduceSub, Int.reduceMul, Nat.zero_le, pk_po_ne, pk_po_eq, pk_po_ix, rI, ne_eq, hk, e2, wp, e1, if_false, ↓low, e4, e5, hw, c1', c2, if_true, ↓cx, ↓cb, c5]
          exact t0 (by omega)
      · simp (disch := omega) only [↓x_c, ↓x_is_2, ↓x_is_3, ↓x_is_4, ↓x_is_5, ↓x_il_5, ↓x_al_0, ↓gi_100_2, ↓x_ishl, ↓x_ge, ↓x_ineg, ↓x_iand, ↓x_isub, ↓c_200, ↓x_is_6, ↓x_il_4, ↓gr_100_4, ↓x_il_6, ↓gr_100_5, ↓x_iadd, ↓x_il_2, ↓x_eq0, ↓x_il_3, ↓x_lt, ↓x_ne, ↓x_go, ↓x_is_7, ↓x_il_1, ↓x_il_7, ↓x_inc_5, ↓pi_100_0, ↓x_ne0, ↓c_14, ↓pi_100_1, ↓x_rt, ↓ld_102, ↓ld_103, ↓n_13, ↓s_13_0, ↓s_13_82, ↓s_13_86, ↓s_13_106, ↓s_13_112, ↓s_13_126, ↓s_13_131, ↓bk_v, ↓bk_n, ↓bk_r, ↓pv_i, ↓pv_r, ↓pv_0, ↓pv_l, wz_pk, wz_ti, wz_wz, vI_wz, wz_id, wz_0, List.length_cons, List.length_nil, ↓reduceIte, true_and, and_true, Int.reduceLE, Int.reduceLT, Int.reduceEq, not_true_eq_false, not_false_eq_true, false_or, or_false, true_or, or_true, ite_not, Int.reduceNeg, Int32.reduceToInt, Nat.reduceAdd, Nat.reduceLeDiff, Nat.reduceLT, Nat.reduceEqDiff, Int.reduceAdd, Int.reduceSub, Int.reduceMul, Nat.zero_le, pk_po_ne, pk_po_eq, pk_po_ix, rI, ne_eq, hk, e2, wp, e1, if_false, ↓low, e4, e5, hw, c1', c2, c3, if_true]
        exact t0 (by omega)
end C55
