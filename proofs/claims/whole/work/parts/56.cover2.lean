theorem odd_mod (a i : Nat) : ((2 * a + 1) * 2 ^ i) % 2 ^ (i + 1) = 2 ^ i := by
  have h0 : (0 : Nat) < 2 ^ i := Nat.pow_pos (by decide)
  rw [Nat.pow_succ]
  have e : (2 * a + 1) * 2 ^ i = 2 ^ i * 2 * a + 2 ^ i := by rw [Nat.add_mul, Nat.one_mul, Nat.mul_comm 2 a, Nat.mul_assoc, Nat.mul_comm a, Nat.mul_comm 2]
  rw [e, Nat.mul_add_mod, Nat.mod_eq_of_lt (by omega)]
theorem mkS_0 {gd : Int → Int} : ∀ k, mkS gd 0 k = 0 := by
  intro k
  induction k with
  | zero => rfl
  | succ k ih => simp [mkS, ih, bt]
section C56
variable {Q : MOut → MHp → Prop} {X : Nat × (Nat → Int32)} {s : Bool × Bool} {dh dl t : Nat} {M : Mem} {S : St}
theorem C13b {k : Nat} {need : Int} (hk : pk M 100 2 = k) (h12 : k ≤ 12) (hn : wz need = need) (hv : ∀ i : Nat, i < k → -40000 ≤ pk M 102 i ∧ pk M 102 i ≤ 40000) (hbl : ∀ i : Nat, i < k → pk M 103 i = sm (fun i => pk M 102 i) i) :
    ∀ (i : Nat), i ≤ k → ∀ (a bs : Nat) (bsum u : Int) (A : Int × Int × Int) (b6 b7 : Value), (a + 1) * 2 ^ i ≤ 2 ^ k → RA (fun i => pk M 101 i) k bs bsum A → -(40000 * ((k : Int) - i)) ≤ u → u ≤ 40000 * ((k : Int) - i) →
    (∀ bs' bsum' b6' b7', RA (fun i => pk M 101 i) k bs' bsum' (cvQ need (fun i => pk M 101 i) (fun i => pk M 102 i) i A (mkS (fun i => pk M 101 i) (a * 2 ^ i) k) u (pc12 (a * 2 ^ i))) → EX 13 (sx 13 10) [.ref 100, vI need, vI (bs' : Nat), vI bsum', vI (u + sm (fun i => pk M 102 i) i), vI (((a + 1) * 2 ^ i : Nat) : Int), b6', b7'] [] (mkh X s dh dl t M) Q) →
    EX 13 (sx 13 10) [.ref 100, vI need, vI (bs : Nat), vI bsum, vI u, vI (((a * 2 ^ i : Nat) : Int) + 1), b6, b7] [] (mkh X s dh dl t M) Q := by
  have hpow : (2 : Nat) ^ k ≤ 4096 := by
    have : (2 : Nat) ^ k ≤ 2 ^ 12 := Nat.pow_le_pow_right (by decide) h12
    omega
  intro i
  induction i with
  | zero =>
    intro _ a bs bsum u A b6 b7 ha hA hu1 hu2 hc
    have e := hc bs bsum b6 b7 hA
    rw [show u + sm (fun i => pk M 102 i) 0 = u by simp [sm]] at e
    rw [show (((a + 1) * 2 ^ 0 : Nat) : Int) = ((a * 2 ^ 0 : Nat) : Int) + 1 by simp] at e
    exact e
  | succ i ih =>
    intro hi a bs bsum u A b6 b7 ha hA hu1 hu2 hc
    have hp : (2 : Nat) ^ (i + 1) = 2 * 2 ^ i := by rw [Nat.pow_succ, Nat.mul_comm]
    have h0 : (0 : Nat) < 2 ^ i := Nat.pow_pos (by decide)
    have e1 : 2 * a * 2 ^ i = a * 2 ^ (i + 1) := by rw [hp, Nat.mul_comm 2 a, Nat.mul_assoc]
    have e2 : (2 * a + 1) * 2 ^ i = a * 2 ^ (i + 1) + 2 ^ i := by rw [Nat.add_mul, Nat.one_mul, e1]
    have e3 : (2 * a + 1 + 1) * 2 ^ i = (a + 1) * 2 ^ (i + 1) := by rw [hp, Nat.add_mul, e2, Nat.add_mul, hp]; omega
    have e4 : (a + 1) * 2 ^ (i + 1) = a * 2 ^ (i + 1) + 2 * 2 ^ i := by rw [Nat.add_mul, hp]; omega
    have hvi := hv i (by omega)
    have hb := hbl i (by omega)
    have hm := odd_mod a i
    have hx : (2 * a + 1) * 2 ^ i < 2 ^ k := by omega
    have ih1 := ih (by omega) (2 * a) bs bsum u A b6 b7 (by omega) hA (by omega) (by omega)
    rw [e1] at ih1
    apply ih1
    intro bs1 bsum1 c6 c7 hA1
    refine C13s (i := i) (x := (2 * a + 1) * 2 ^ i) (w := u + pk M 102 i) hk h12 hx (by omega) hm hn hA1 (by rw [hb]; omega) (by omega) ?_
    intro bs2 bsum2 d6 d7 hA2
    have hx4 : (2 * a + 1) * 2 ^ i < 4096 := by omega
    have es : (2 * a + 1) * 2 ^ i - 2 ^ i = a * 2 ^ (i + 1) := by omega
    have m1 := mkS_at (gd := fun i => pk M 101 i) hx4 (by omega : i < 12) hm k h12
    have m2 := pc_at hx4 (by omega : i < 12) hm
    rw [es, if_pos (by omega)] at m1
    rw [es] at m2
    refine ih (by omega) (2 * a + 1) bs2 bsum2 (u + pk M 102 i) _ d6 d7 (by omega) hA2 (by omega) (by omega) ?_
    intro bs3 bsum3 f6 f7 hA3
    have e := hc bs3 bsum3 f6 f7 (by
      simp only [cvQ]
      rw [m1, m2] at hA3
      rw [show ((pc12 (a * 2 ^ (i + 1)) + 1 : Nat) : Int) = (pc12 (a * 2 ^ (i + 1)) : Int) + 1 by omega] at hA3
      exact hA3)
    rw [e3]
    simp only [sm] at e
    rw [show u + pk M 102 i + sm (fun i => pk M 102 i) i = u + (sm (fun i => pk M 102 i) i + pk M 102 i) by omega]
    exact e
theorem C13 {k : Nat} {need : Int} (hk : pk M 100 2 = k) (h12 : k ≤ 12) (hn : 1 ≤ need ∧ need ≤ 20000) (hv : ∀ i : Nat, i < k → -40000 ≤ pk M 102 i ∧ pk M 102 i ≤ 40000) (hbl : ∀ i : Nat, i < k → pk M 103 i = sm (fun i => pk M 102 i) i) (hg : ∀ i : Nat, i < k → 0 ≤ pk M 101 i ∧ pk M 101 i < 12) (hm : ∀ i j : Nat, i < j → j < k → pk M 101 i < pk M 101 j)
    (hQ : ∀ M', fx [100] M M' → pk M' 100 0 = (cvP need (fun i => pk M 101 i) (fun i => pk M 102 i) k (-1, -1, 0) 0 0 0).2.1 → pk M' 100 1 = (cvP need (fun i => pk M 101 i) (fun i => pk M 102 i) k (-1, -1, 0) 0 0 0).1 → Q (.inl none) (mkh X s dh dl t M')) : CL 13 [.ref 100, vI need] (mkh X s dh dl t M) Q := by
  have wn : wz need = need := wz_id (by omega) (by omega)
  have hA0 : RA (fun i => pk M 101 i) k 0 (-1) (-1, -1, 0) := ⟨by decide, by rw [if_pos rfl], rfl, fun h => absurd rfl h, by decide, by decide⟩
  have b0 := C13b (Q := Q) (X := X) (s := s) (dh := dh) (dl := dl) (t := t) hk h12 wn hv hbl k (Nat.le_refl _) 0 0 (-1) 0 (-1, -1, 0) .null .null (by rw [Nat.zero_add, Nat.one_mul]; exact Nat.le_refl _) hA0 (by omega) (by omega)
  rw [Nat.zero_mul] at b0
  have b1 := b0 ?_
  · simp only [↓x_c, ↓x_is_2, ↓x_is_3, ↓x_is_4, ↓x_is_5, ↓x_il_5, ↓x_al_0, ↓gi_100_2, ↓x_ishl, ↓x_ge, ↓x_ineg, ↓x_iand, ↓x_isub, ↓c_200, ↓x_is_6, ↓x_il_4, ↓gr_100_4, ↓x_il_6, ↓gr_100_5, ↓x_iadd, ↓x_il_2, ↓x_eq0, ↓x_il_3, ↓x_lt, ↓x_ne, ↓x_go, ↓x_is_7, ↓x_il_1, ↓x_il_7, ↓x_inc_5, ↓pi_100_0, ↓x_ne0, ↓c_14, ↓pi_100_1, ↓x_rt, ↓ld_102, ↓ld_103, ↓n_13, ↓s_13_0, ↓s_13_82, ↓s_13_86, ↓s_13_87, ↓s_13_106, ↓s_13_112, ↓s_13_126, ↓s_13_131, ↓bk_v, ↓bk_n, ↓bk_r, ↓pv_i, ↓pv_r, ↓pv_0, ↓pv_l, wz_pk, wz_ti, wz_wz, vI_wz, wz_id, wz_0, List.length_cons, List.length_nil, ↓reduceIte, true_and, and_true, Int.reduceLE, Int.reduceLT, Int.reduceEq, not_true_eq_false, not_false_eq_true, false_or, or_false, true_or, or_true, ite_not, Int.reduceNeg, Int32.reduceToInt, Nat.reduceAdd, Nat.reduceLeDiff, Nat.reduceLT, Nat.reduceEqDiff, Int.reduceAdd, Int.reduceSub, Int.reduceMul, Nat.zero_le, pk_po_ne, pk_po_eq, pk_po_ix, rI, ne_eq]
    exact b1
  · intro bs bsum b6 b7 hA
    rw [mkS_0, show ((pc12 0 : Nat) : Int) = 0 from rfl] at hA
    have eP : cvP need (fun i => pk M 101 i) (fun i => pk M 102 i) k (-1, -1, 0) 0 0 0 = cvQ need (fun i => pk M 101 i) (fun i => pk M 102 i) k (-1, -1, 0) 0 0 0 := by
      rw [cvP_Q]
      unfold cvS
      rw [if_pos (by omega)]
    rw [← eP] at hA
    have e1 : (2 : Int) ^ k ≤ (((0 + 1) * 2 ^ k : Nat) : Int) := by
      rw [Nat.zero_add, Nat.one_mul]
      have : ((2 ^ k : Nat) : Int) = 2 ^ k := by exact_mod_cast rfl
      omega
    have hpow : (2 : Nat) ^ k ≤ 4096 := by
      have : (2 : Nat) ^ k ≤ 2 ^ 12 := Nat.pow_le_pow_right (by decide) h12
      omega
    have wp : wz ((2 : Int) ^ k) = 2 ^ k := by
      have : ((2 ^ k : Nat) : Int) = 2 ^ k := by exact_mod_cast rfl
      rw [← this]
      exact wz_id (by omega) (by omega)
    have wq : wz (((0 + 1) * 2 ^ k : Nat) : Int) = (((0 + 1) * 2 ^ k : Nat) : Int) := wz_id (by omega) (by omega)
    have e2 := shl_at h12
    obtain ⟨a1, a2, a3, a4, a5⟩ := hA
    rw [s_13_10]
    by_cases c1 : bs = 0
    · subst c1
      rw [if_pos rfl] at a2
      have e := hQ (po (po M 100 0 bsum) 100 1 (-1)) ((fx.rfl.pw (by decide)).pw (by decide)) (by rw [pk_po_ix (by decide), pk_po_eq, a3]; exact wz_id (by omega) (by omega)) (by rw [pk_po_eq, a2]; rfl)
      simp only [↓x_c, ↓x_is_2, ↓x_is_3, ↓x_is_4, ↓x_is_5, ↓x_il_5, ↓x_al_0, ↓gi_100_2, ↓x_ishl, ↓x_ge, ↓x_ineg, ↓x_iand, ↓x_isub, ↓c_200, ↓x_is_6, ↓x_il_4, ↓gr_100_4, ↓x_il_6, ↓gr_100_5, ↓x_iadd, ↓x_il_2, ↓x_eq0, ↓x_il_3, ↓x_lt, ↓x_ne, ↓x_go, ↓x_is_7, ↓x_il_1, ↓x_il_7, ↓x_inc_5, ↓pi_100_0, ↓x_ne0, ↓c_14, ↓pi_100_1, ↓x_rt, ↓ld_102, ↓ld_103, ↓n_13, ↓s_13_0, ↓s_13_82, ↓s_13_86, ↓s_13_87, ↓s_13_106, ↓s_13_112, ↓s_13_126, ↓s_13_131, ↓bk_v, ↓bk_n, ↓bk_r, ↓pv_i, ↓pv_r, ↓pv_0, ↓pv_l, wz_pk, wz_ti, wz_wz, vI_wz, wz_id, wz_0, List.length_cons, List.length_nil, ↓reduceIte, true_and, and_true, Int.reduceLE, Int.reduceLT, Int.reduceEq, not_true_eq_false, not_false_eq_true, false_or, or_false, true_or, or_true, ite_not, Int.reduceNeg, Int32.reduceToInt, Nat.reduceAdd, Nat.reduceLeDiff, Nat.reduceLT, Nat.reduceEqDiff, Int.reduceAdd, Int.reduceSub, Int.reduceMul, Nat.zero_le, pk_po_ne, pk_po_eq, pk_po_ix, rI, ne_eq, hk, e2, wp, wq, e1, if_true]
      exact e
    · rw [if_neg c1] at a2
      have c1' : ¬ (bs : Int) = 0 := by omega
      have wb : wz (bs : Int) = bs := wz_id (by omega) (by omega)
      have h14 := fun (Q' : MOut → MHp → Prop) => C14 (Q := Q') (X := X) (s := s) (dh := dh) (dl := dl) (t := t) (M := po M 100 0 bsum) (k := k) (x := bs) (by rw [pk_po_ix (by decide)]; exact hk) h12 a1 (fun i hi => by rw [pk_po_ne (by decide)]; exact hg i hi) (fun i j hi hj => by rw [pk_po_ne (by decide), pk_po_ne (by decide)]; exact hm i j hi hj)
      have em : mkS (fun i => pk (po M 100 0 bsum) 101 i) bs k = mkS (fun i => pk M 101 i) bs k := by
        have : (fun i => pk (po M 100 0 bsum) 101 i) = (fun i => pk M 101 i) := by funext i; rw [pk_po_ne (by decide)]
        rw [this]
      rw [em] at h14
      have mb : mkS (fun i => pk M 101 i) bs k < 4096 := by
        have gen : ∀ i : Nat, i ≤ k → ∀ g : Nat, (∀ j : Nat, j < i → pk M 101 j < g) → mkS (fun i => pk M 101 i) bs i < 2 ^ g := by
          intro i
          induction i with
          | zero => intro _ g _; simp only [mkS]; exact Int.pow_pos (by decide)
          | succ i ih =>
            intro hi g hgj
            have h1 := hgj i (by omega)
            have h2 := hg i (by omega)
            have h3 := ih (by omega) (pk M 101 i).toNat (fun j hj => by have := hm j i hj (by omega); omega)
            have h4 : (2 : Int) ^ ((pk M 101 i).toNat + 1) ≤ 2 ^ g := by
              have : (pk M 101 i).toNat + 1 ≤ g := by omega
              exact_mod_cast Nat.pow_le_pow_right (by decide) this
            rw [Int.pow_succ] at h4
            have h5 : (0 : Int) < 2 ^ (pk M 101 i).toNat := Int.pow_pos (by decide)
            simp only [mkS]
            split <;> omega
        have := gen k (Nat.le_refl _) 12 (fun j hj => by have := hg j hj; omega)
        omega
      have mp := mkS_pos (gd := fun i => pk M 101 i) (x := bs) k
      have e := hQ (po (po M 100 0 bsum) 100 1 (mkS (fun i => pk M 101 i) bs k)) ((fx.rfl.pw (by decide)).pw (by decide)) (by rw [pk_po_ix (by decide), pk_po_eq, a3]; exact wz_id (by omega) (by omega)) (by rw [pk_po_eq, a2]; exact wz_id (by omega) (by omega))
      simp only [↓x_c, ↓x_is_2, ↓x_is_3, ↓x_is_4, ↓x_is_5, ↓x_il_5, ↓x_al_0, ↓gi_100_2, ↓x_ishl, ↓x_ge, ↓x_ineg, ↓x_iand, ↓x_isub, ↓c_200, ↓x_is_6, ↓x_il_4, ↓gr_100_4, ↓x_il_6, ↓gr_100_5, ↓x_iadd, ↓x_il_2, ↓x_eq0, ↓x_il_3, ↓x_lt, ↓x_ne, ↓x_go, ↓x_is_7, ↓x_il_1, ↓x_il_7, ↓x_inc_5, ↓pi_100_0, ↓x_ne0, ↓c_14, ↓pi_100_1, ↓x_rt, ↓ld_102, ↓ld_103, ↓n_13, ↓s_13_0, ↓s_13_82, ↓s_13_86, ↓s_13_87, ↓s_13_106, ↓s_13_112, ↓s_13_126, ↓s_13_131, ↓bk_v, ↓bk_n, ↓bk_r, ↓pv_i, ↓pv_r, ↓pv_0, ↓pv_l, wz_pk, wz_ti, wz_wz, vI_wz, wz_id, wz_0, List.length_cons, List.length_nil, ↓reduceIte, true_and, and_true, Int.reduceLE, Int.reduceLT, Int.reduceEq, not_true_eq_false, not_false_eq_true, false_or, or_false, true_or, or_true, ite_not, Int.reduceNeg, Int32.reduceToInt, Nat.reduceAdd, Nat.reduceLeDiff, Nat.reduceLT, Nat.reduceEqDiff, Int.reduceAdd, Int.reduceSub, Int.reduceMul, Nat.zero_le, pk_po_ne, pk_po_eq, pk_po_ix, rI, ne_eq, hk, e2, wp, wq, e1, if_true, wb, c1', if_false, ↓h14]
      exact e
def smo (ok : Nat → Bool) (v : Int → Int) : Nat → Int
  | 0 => 0
  | n + 1 => smo ok v n + if ok n = true then v n else 0
theorem kc_ex {ok : Nat → Bool} {i : Nat} : ∀ G, i < kc ok G → ∃ g, g < G ∧ ok g = true ∧ kc ok g = i := by
  intro G
  induction G with
  | zero => intro h; simp [kc] at h
  | succ G ih =>
    intro h
    simp only [kc] at h
    by_cases h1 : i < kc ok G
    · obtain ⟨g, a, b, c⟩ := ih h1
      exact ⟨g, by omega, b, c⟩
    · split at h
      · rename_i ho
        exact ⟨G, by omega, ho, by omega⟩
      · omega
theorem smo_sm {ok : Nat → Bool} {v vl : Int → Int} {G : Nat} (h : ∀ g, g < G → ok g = true → vl (kc ok g) = v g) : ∀ g, g ≤ G → smo ok v g = sm vl (kc ok g) := by
  intro g
  induction g with
  | zero => intro _; rfl
  | succ g ih =>
    intro hg
    simp only [smo, kc]
    rw [ih (by omega)]
    split
    · rename_i ho
      simp only [sm]
      rw [h g (by omega) ho]
    · simp
theorem smo_rng {ok : Nat → Bool} {v : Int → Int} {b : Int} (hb : 0 ≤ b) : ∀ (n : Nat), (∀ g : Nat, g < n → -b ≤ v g ∧ v g ≤ b) → -(n * b) ≤ smo ok v n ∧ smo ok v n ≤ n * b := by
  intro n
  induction n with
  | zero => intro _; simp [smo]
  | succ n ih =>
    intro h
    have h1 := ih (fun g hg => h g (by omega))
    have h2 := h n (by omega)
    have h3 : ((n + 1 : Nat) : Int) * b = n * b + b := by rw [Int.natCast_add, Int.add_mul]; simp
    simp only [smo]
    rw [h3]
    split <;> omega
theorem K101 {d m o w : Int} (hC : RC S M) (hH : hou S) (hL : wfl S) (hI : crs S 78) (hd : wz d = d) (hm : wz m = m) (ho : wz o = o) (hw : wz w = w) (hP : PC X s dh dl t M Q (o_cover S d m o w)) : CL 101 [.ref 0, vI d, vI m, vI o, vI w] (mkh X s dh dl t M) Q := by
  have n1 := hH.nd
  have n2 := hH.ng
  have n3 := hH.np
  simp only [↓x_al_0, ↓x_il_1, ↓gd_0_3, ↓gi_hA_2, ↓gi_hB_2, ↓c_109, ↓x_il_2, ↓x_c, ↓c_110, ↓x_il_3, ↓x_il_4, ↓gr_hA_12, ↓gr_hB_12, ↓x_is_5, ↓gr_0_15, ↓c_11, ↓x_is_6, ↓x_il_6, ↓gi_hA_1, ↓gi_hB_1, ↓x_ge, ↓gr_0_9, ↓c_9, ↓x_ne0, ↓c_114, ↓x_ne, ↓x_il_5, ↓gr_hA_7, ↓gr_hB_7, ↓c_21_hA, ↓c_12, ↓x_inc_6, ↓x_go, ↓gr_hA_13, ↓gr_hB_13, ↓gr_78_8, ↓c_23_hA, ↓x_iadd, ↓c_13, ↓gi_100_0, ↓gi_100_1, ↓x_ir, ↓ld_86, ↓ld_hA_26, ↓ld_hA_27, ↓ld_hA_9, ↓ld_hB_26, ↓ld_hB_27, ↓ld_hB_9, ↓n_101, ↓s_101_0, ↓s_101_124, ↓s_101_130, ↓s_101_179, ↓s_101_186, ↓bk_v, ↓bk_n, ↓bk_r, ↓be_101, ↓pv_i, ↓pv_r, ↓pv_0, ↓pv_l, wz_pk, wz_ti, wz_wz, vI_wz, wz_id, wz_0, List.length_cons, List.length_nil, ↓reduceIte, true_and, and_true, Int.reduceLE, Int.reduceLT, Int.reduceEq, not_true_eq_false, not_false_eq_true, false_or, or_false, true_or, or_true, ite_not, Int.reduceNeg, Int32.reduceToInt, Nat.reduceAdd, Nat.reduceLeDiff, Nat.reduceLT, Nat.reduceEqDiff, Int.reduceAdd, Int.reduceSub, Int.reduceMul, Nat.zero_le, pk_po_ne, pk_po_eq, pk_po_ix, rI, ne_eq, hC.at 3 rfl, hC.wzz 3 rfl, hC.at 29 rfl, hC.wzz 29 rfl, ↓C109 hC, ↓C110 hC, hd, hm, ho, hw]
  by_cases h1 : 0 ≤ d ∧ d < S 3 2
  · rw [if_pos h1]
    by_cases h2 : ((0 ≤ m ∧ m ≤ 9999) ∧ (0 ≤ o ∧ o ≤ 2)) ∧ (0 ≤ w ∧ w ≤ 1)
    · rw [if_pos h2.1.1, if_pos h2.1.2, if_pos h2.2]
      have hdb := hH.dbt d h1.1 h1.2
      have ham := hH.amt d h1.1 h1.2
      have hst := c78_stage hI (S 29 d) hdb.1 (by omega)
      have hfe := fees_rng (k := S 86 (S 29 d)) hH (by omega)
      have hvr : ∀ g : Nat, g < (S 3 1).toNat → -39996 ≤ vCv S (S 29 d) g ∧ vCv S (S 29 d) g ≤ 9999 := fun g hg => by
        have hw1 := hH.wor g (by omega) (by omega)
        exact share_rng hH ⟨by omega, by omega⟩ hdb ⟨by omega, by omega⟩
      -- the goods, one by one
      have key : ∀ M1, fx [68, 91, 100, 101, 102, 103] M M1 → pk M1 100 2 = (kc (okCv S d m o) 0 : Nat) → pk M1 100 6 = smo (okCv S d m o) (vCv S (S 29 d)) 0 → (∀ g : Nat, g < 0 → okCv S d m o g = true → pk M1 101 (kc (okCv S d m o) g : Nat) = g ∧ pk M1 102 (kc (okCv S d m o) g : Nat) = vCv S (S 29 d) g ∧ pk M1 103 (kc (okCv S d m o) g : Nat) = smo (okCv S d m o) (vCv S (S 29 d)) g) → EX 101 (sx 101 57) [.ref 0, vI d, vI m, vI o, vI w, vI (S 29 d), vI ((0 : Nat) : Int)] [] (mkh X s dh dl t M1) Q := by
        refine lp (n := (S 3 1).toNat) (fun n => ∀ M1, fx [68, 91, 100, 101, 102, 103] M M1 → pk M1 100 2 = (kc (okCv S d m o) n : Nat) → pk M1 100 6 = smo (okCv S d m o) (vCv S (S 29 d)) n → (∀ g : Nat, g < n → okCv S d m o g = true → pk M1 101 (kc (okCv S d m o) g : Nat) = g ∧ pk M1 102 (kc (okCv S d m o) g : Nat) = vCv S (S 29 d) g ∧ pk M1 103 (kc (okCv S d m o) g : Nat) = smo (okCv S d m o) (vCv S (S 29 d)) g) → EX 101 (sx 101 57) [.ref 0, vI d, vI m, vI o, vI w, vI (S 29 d), vI (n : Int)] [] (mkh X s dh dl t M1) Q) ?_ ?_
        · intro M1 f a1 a2 a3
          have hC1 := hC.fxx f rfl
          have e1 : S 3 1 ≤ (S 3 1).toNat := by omega
          have kle := kc_le (ok := okCv S d m o) (S 3 1).toNat
          have d6 : d < 6 := by omega
          have d0 : (0 : Int) ≤ d := h1.1
          have p4 : S 29 d < 4 := by omega
          have p0 : (0 : Int) ≤ S 29 d := hdb.1
          rw [s_101_57]
          simp (disch := omega) only [↓x_al_0, ↓x_il_1, ↓gd_0_3, ↓gi_hA_2, ↓gi_hB_2, ↓c_109, ↓x_il_2, ↓x_c, ↓c_110, ↓x_il_3, ↓x_il_4, ↓gr_hA_12, ↓gr_hB_12, ↓x_is_5, ↓gr_0_15, ↓c_11, ↓x_is_6, ↓x_il_6, ↓gi_hA_1, ↓gi_hB_1, ↓x_ge, ↓gr_0_9, ↓c_9, ↓x_ne0, ↓c_114, ↓x_ne, ↓x_il_5, ↓gr_hA_7, ↓gr_hB_7, ↓c_21_hA, ↓c_12, ↓x_inc_6, ↓x_go, ↓gr_hA_13, ↓gr_hB_13, ↓gr_78_8, ↓c_23_hA, ↓x_iadd, ↓c_13, ↓gi_100_0, ↓gi_100_1, ↓x_ir, ↓ld_86, ↓ld_hA_26, ↓ld_hA_27, ↓ld_hA_9, ↓ld_hB_26, ↓ld_hB_27, ↓ld_hB_9, ↓n_101, ↓s_101_0, ↓s_101_124, ↓s_101_130, ↓s_101_179, ↓s_101_186, ↓bk_v, ↓bk_n, ↓bk_r, ↓be_101, ↓pv_i, ↓pv_r, ↓pv_0, ↓pv_l, wz_pk, wz_ti, wz_wz, vI_wz, wz_id, wz_0, List.length_cons, List.length_nil, ↓reduceIte, true_and, and_true, Int.reduceLE, Int.reduceLT, Int.reduceEq, not_true_eq_false, not_false_eq_true, false_or, or_false, true_or, or_true, ite_not, Int.reduceNeg, Int32.reduceToInt, Nat.reduceAdd, Nat.reduceLeDiff, Nat.reduceLT, Nat.reduceEqDiff, Int.reduceAdd, Int.reduceSub, Int.reduceMul, Nat.zero_le, pk_po_ne, pk_po_eq, pk_po_ix, rI, ne_eq, hC1.at 3 rfl, hC1.at 30 rfl, hC1.at 86 rfl, e1, if_true, d6, d0, p4, p0, ↓C23 hC1 hst.1 hst.2]
          refine C13 (k := kc (okCv S d m o) (S 3 1).toNat) a1 (by omega) ⟨by omega, by omega⟩ ?_ ?_ ?_ ?_ ?_
          · intro i hi
            obtain ⟨g, b1, b2, b3⟩ := kc_ex _ hi
            have b4 := a3 g b1 b2
            rw [b3] at b4
            have b5 := hvr g b1
            rw [b4.2.1]
            omega
          · intro i hi
            obtain ⟨g, b1, b2, b3⟩ := kc_ex _ hi
            have b4 := a3 g b1 b2
            rw [b3] at b4
            rw [b4.2.2, smo_sm (vl := fun i => pk M1 102 i) (G := (S 3 1).toNat) (fun g' hg' hok => (a3 g' hg' hok).2.1) g (by omega), b3]
          · intro i hi
            obtain ⟨g, b1, b2, b3⟩ := kc_ex _ hi
            have b4 := a3 g b1 b2
            rw [b3] at b4
            rw [b4.1]
            omega
          · intro i j hi hj
            obtain ⟨g, b1, b2, b3⟩ := kc_ex _ (show i < kc (okCv S d m o) (S 3 1).toNat by omega)
            obtain ⟨g', c1, c2, c3⟩ := kc_ex _ hj
            have b4 := a3 g b1 b2
            have c4 := a3 g' c1 c2
            rw [b3] at b4
            rw [c3] at c4
            rw [b4.1, c4.1]
            have : g < g' := by
              by_cases h : g' ≤ g
              · have := kc_mono (ok := okCv S d m o) g h; omega
              · omega
            omega
          · intro M2 f2 g1 g2
            have eF : coverR S d m o = cvP (S 30 d + feesTo S (S 86 (S 29 d))) (fun i => pk M1 101 i) (fun i => pk M1 102 i) (kc (okCv S d m o) (S 3 1).toNat) (-1, -1, 0) 0 0 0 := cvF_P (gd := fun i => pk M1 101 i) (vl := fun i => pk M1 102 i) (G := (S 3 1).toNat) (fun g hg hok => ⟨(a3 g hg hok).1, (a3 g hg hok).2.1⟩) _ (Nat.le_refl _) _ _ _ _
            have e := hP.ok (M' := M2) (by rw [o_cover, if_pos h1, if_pos h2]) (hC1.fxx f2 rfl) ((FC.fxx f rfl).trans (FC.fxx f2 rfl))
            rw [eF] at e
            clear a3 hvr
            simp only [↓x_al_0, ↓x_il_1, ↓gd_0_3, ↓gi_hA_2, ↓gi_hB_2, ↓c_109, ↓x_il_2, ↓x_c, ↓c_110, ↓x_il_3, ↓x_il_4, ↓gr_hA_12, ↓gr_hB_12, ↓x_is_5, ↓gr_0_15, ↓c_11, ↓x_is_6, ↓x_il_6, ↓gi_hA_1, ↓gi_hB_1, ↓x_ge, ↓gr_0_9, ↓c_9, ↓x_ne0, ↓c_114, ↓x_ne, ↓x_il_5, ↓gr_hA_7, ↓gr_hB_7, ↓c_21_hA, ↓c_12, ↓x_inc_6, ↓x_go, ↓gr_hA_13, ↓gr_hB_13, ↓gr_78_8, ↓c_23_hA, ↓x_iadd, ↓c_13, ↓gi_100_0, ↓gi_100_1, ↓x_ir, ↓ld_86, ↓ld_hA_26, ↓ld_hA_27, ↓ld_hA_9, ↓ld_hB_26, ↓ld_hB_27, ↓ld_hB_9, ↓n_101, ↓s_101_0, ↓s_101_124, ↓s_101_130, ↓s_101_179, ↓s_101_186, ↓bk_v, ↓bk_n, ↓bk_r, ↓be_101, ↓pv_i, ↓pv_r, ↓pv_0, ↓pv_l, wz_pk, wz_ti, wz_wz, vI_wz, wz_id, wz_0, List.length_cons, List.length_nil, ↓reduceIte, true_and, and_true, Int.reduceLE, Int.reduceLT, Int.reduceEq, not_true_eq_false, not_false_eq_true, false_or, or_false, true_or, or_true, ite_not, Int.reduceNeg, Int32.reduceToInt, Nat.reduceAdd, Nat.reduceLeDiff, Nat.reduceLT, Nat.reduceEqDiff, Int.reduceAdd, Int.reduceSub, Int.reduceMul, Nat.zero_le, pk_po_ne, pk_po_eq, pk_po_ix, rI, ne_eq, hw, g1, g2]
            grind
        · intro n hn ih M1 f a1 a2 a3
          have hC1 := hC.fxx f rfl
          have e1 : ¬ S 3 1 ≤ n := by omega
          have e2 : (n : Int) < 12 := by omega
          have e3 : (0 : Int) ≤ n := by omega
          have kle := kc_le (ok := okCv S d m o) n
          have hw1 := hH.wor n (by omega) (by omega)
          have hvn := hvr n hn
          have hsr := smo_rng (ok := okCv S d m o) (v := vCv S (S 29 d)) (b := 39996) (by decide) n (fun g hg => by have := hvr g (by omega); omega)
          rw [s_101_57]
          by_cases c1 : gone S n = true
          · have hok : okCv S d m o n = false := by simp [okCv, c1]
            have ih2 := ih M1 f (by rw [a1]; simp [kc, hok]) (by rw [a2]; simp [smo, hok]) (fun g hg hg2 => by
              by_cases hgn : g = n
              · rw [hgn, hok] at hg2; cases hg2
              · exact a3 g (by omega) hg2)
            simp (disch := omega) only [↓x_al_0, ↓x_il_1, ↓gd_0_3, ↓gi_hA_2, ↓gi_hB_2, ↓c_109, ↓x_il_2, ↓x_c, ↓c_110, ↓x_il_3, ↓x_il_4, ↓gr_hA_12, ↓gr_hB_12, ↓x_is_5, ↓gr_0_15, ↓c_11, ↓x_is_6, ↓x_il_6, ↓gi_hA_1, ↓gi_hB_1, ↓x_ge, ↓gr_0_9, ↓c_9, ↓x_ne0, ↓c_114, ↓x_ne, ↓x_il_5, ↓gr_hA_7, ↓gr_hB_7, ↓c_21_hA, ↓c_12, ↓x_inc_6, ↓x_go, ↓gr_hA_13, ↓gr_hB_13, ↓gr_78_8, ↓c_23_hA, ↓x_iadd, ↓c_13, ↓gi_100_0, ↓gi_100_1, ↓x_ir, ↓ld_86, ↓ld_hA_26, ↓ld_hA_27, ↓ld_hA_9, ↓ld_hB_26, ↓ld_hB_27, ↓ld_hB_9, ↓n_101, ↓s_101_0, ↓s_101_124, ↓s_101_130, ↓s_101_179, ↓s_101_186, ↓bk_v, ↓bk_n, ↓bk_r, ↓be_101, ↓pv_i, ↓pv_r, ↓pv_0, ↓pv_l, wz_pk, wz_ti, wz_wz, vI_wz, wz_id, wz_0, List.length_cons, List.length_nil, ↓reduceIte, true_and, and_true, Int.reduceLE, Int.reduceLT, Int.reduceEq, not_true_eq_false, not_false_eq_true, false_or, or_false, true_or, or_true, ite_not, Int.reduceNeg, Int32.reduceToInt, Nat.reduceAdd, Nat.reduceLeDiff, Nat.reduceLT, Nat.reduceEqDiff, Int.reduceAdd, Int.reduceSub, Int.reduceMul, Nat.zero_le, pk_po_ne, pk_po_eq, pk_po_ix, rI, ne_eq, hC1.at 3 rfl, e1, if_false, ↓C9 hC1, e2, e3, bi_wz, bi_0, c1, Bool.true_eq_false]
            exact ih2
          · have c1' : gone S n = false := by simpa using c1
            simp (disch := omega) only [↓x_al_0, ↓x_il_1, ↓gd_0_3, ↓gi_hA_2, ↓gi_hB_2, ↓c_109, ↓x_il_2, ↓x_c, ↓c_110, ↓x_il_3, ↓x_il_4, ↓gr_hA_12, ↓gr_hB_12, ↓x_is_5, ↓gr_0_15, ↓c_11, ↓x_is_6, ↓x_il_6, ↓gi_hA_1, ↓gi_hB_1, ↓x_ge, ↓gr_0_9, ↓c_9, ↓x_ne0, ↓c_114, ↓x_ne, ↓x_il_5, ↓gr_hA_7, ↓gr_hB_7, ↓c_21_hA, ↓c_12, ↓x_inc_6, ↓x_go, ↓gr_hA_13, ↓gr_hB_13, ↓gr_78_8, ↓c_23_hA, ↓x_iadd, ↓c_13, ↓gi_100_0, ↓gi_100_1, ↓x_ir, ↓ld_86, ↓ld_hA_26, ↓ld_hA_27, ↓ld_hA_9, ↓ld_hB_26, ↓ld_hB_27, ↓ld_hB_9, ↓n_101, ↓s_101_0, ↓s_101_124, ↓s_101_130, ↓s_101_179, ↓s_101_186, ↓bk_v, ↓bk_n, ↓bk_r, ↓be_101, ↓pv_i, ↓pv_r, ↓pv_0, ↓pv_l, wz_pk, wz_ti, wz_wz, vI_wz, wz_id, wz_0, List.length_cons, List.length_nil, ↓reduceIte, true_and, and_true, Int.reduceLE, Int.reduceLT, Int.reduceEq, not_true_eq_false, not_false_eq_true, false_or, or_false, true_or, or_true, ite_not, Int.reduceNeg, Int32.reduceToInt, Nat.reduceAdd, Nat.reduceLeDiff, Nat.reduceLT, Nat.reduceEqDiff, Int.reduceAdd, Int.reduceSub, Int.reduceMul, Nat.zero_le, pk_po_ne, pk_po_eq, pk_po_ix, rI, ne_eq, hC1.at 3 rfl, e1, if_false, ↓C9 hC1, e2, e3, bi_wz, bi_0, c1', if_true]
            refine C114 hC1 hH hL h1 ⟨by omega, by omega⟩ h2.1.1 h2.1.2 ?_
            intro M2 f2
            have f2' : fx [68, 91, 100, 101, 102, 103] M1 M2 := fun a ha => f2 a (fun h => ha (by simp [h])) (fun h => ha (by simp [h]))
            have f3 := f.trans f2'
            have hC2 := hC.fxx f3 rfl
            have g1 : ∀ a i, a ≠ 68 → a ≠ 91 → pk M2 a i = pk M1 a i := fun a i x y => by unfold pk; rw [f2 a x y]
            have hb := barOf_rng (f := fct S d n m o m) hL
            have eb : wz (barred S d n m o) = barred S d n m o := wz_id (by unfold barred; omega) (by unfold barred; omega)
            by_cases c2 : barred S d n m o = -1
            · have hok : okCv S d m o n = true := by simp [okCv, c1', c2]
              have wv : wz (share S n (S 29 d) (S 12 n)) = share S n (S 29 d) (S 12 n) := wz_id (by unfold vCv at hvn; omega) (by unfold vCv at hvn; omega)
              have hsh := fun (Q' : MOut → MHp → Prop) => C21 (Q := Q') (X := X) (s := s) (dh := dh) (dl := dl) (t := t) (g := n) (p := S 29 d) (x := S 12 n) hC2 hH ⟨by omega, by omega⟩ hdb ⟨by omega, by omega⟩
              have k2 : pk M2 100 2 = (kc (okCv S d m o) n : Nat) := by rw [g1 _ _ (by decide) (by decide)]; exact a1
              have k6 : pk M2 100 6 = smo (okCv S d m o) (vCv S (S 29 d)) n := by rw [g1 _ _ (by decide) (by decide)]; exact a2
              have hof := fun (Q' : MOut → MHp → Prop) => C12 (Q := Q') (X := X) (s := s) (dh := dh) (dl := dl) (t := t) (g := n) (v := share S n (S 29 d) (S 12 n)) k2 ⟨by omega, by omega⟩ k6
              have ih2 := ih (po (po (po (po (po M2 101 (kc (okCv S d m o) n : Nat) n) 102 (kc (okCv S d m o) n : Nat) (share S n (S 29 d) (S 12 n))) 103 (kc (okCv S d m o) n : Nat) (smo (okCv S d m o) (vCv S (S 29 d)) n)) 100 6 (smo (okCv S d m o) (vCv S (S 29 d)) n + share S n (S 29 d) (S 12 n))) 100 2 ((kc (okCv S d m o) n : Nat) + 1)) (((((f3.pw (by decide)).pw (by decide)).pw (by decide)).pw (by decide)).pw (by decide)) (by rw [pk_po_eq, wz_id (by omega) (by omega)]; simp only [kc]; rw [if_pos hok]; omega) (by rw [pk_po_ix (by decide), pk_po_eq, wz_id (by unfold vCv at hvn; omega) (by unfold vCv at hvn; omega)]; simp only [smo]; rw [if_pos hok]; rfl) (fun g hg hg2 => by
                have kg : kc (okCv S d m o) g < 12 := by have := kc_le (ok := okCv S d m o) g; omega
                simp only [pk_po_ne (M := _) (show 101 ≠ 100 by decide), pk_po_ne (M := _) (show 102 ≠ 100 by decide), pk_po_ne (M := _) (show 103 ≠ 100 by decide), pk_po_ne (M := _) (show 101 ≠ 102 by decide), pk_po_ne (M := _) (show 101 ≠ 103 by decide), pk_po_ne (M := _) (show 102 ≠ 103 by decide), pk_po_ne (M := _) (show 102 ≠ 101 by decide), pk_po_ne (M := _) (show 103 ≠ 101 by decide), pk_po_ne (M := _) (show 103 ≠ 102 by decide)]
                by_cases hgn : g = n
                · subst hgn
                  rw [pk_po_eq, pk_po_eq, pk_po_eq]
                  exact ⟨wz_id (by omega) (by omega), wv, wz_id (by omega) (by omega)⟩
                · have hlt : kc (okCv S d m o) g < kc (okCv S d m o) n := by
                    have := kc_mono (ok := okCv S d m o) (g := g + 1) n (by omega)
                    simp only [kc] at this
                    rw [if_pos hg2] at this
                    omega
                  rw [pk_po_ix (by omega), pk_po_ix (by omega), pk_po_ix (by omega), pk_po_ne (show 102 ≠ 101 by decide), pk_po_ne (show 103 ≠ 102 by decide), pk_po_ne (show 103 ≠ 101 by decide), g1 _ _ (by decide) (by decide), g1 _ _ (by decide) (by decide), g1 _ _ (by decide) (by decide)]
                  exact a3 g (by omega) hg2)
              simp (disch := omega) only [↓x_al_0, ↓x_il_1, ↓gd_0_3, ↓gi_hA_2, ↓gi_hB_2, ↓c_109, ↓x_il_2, ↓x_c, ↓c_110, ↓x_il_3, ↓x_il_4, ↓gr_hA_12, ↓gr_hB_12, ↓x_is_5, ↓gr_0_15, ↓c_11, ↓x_is_6, ↓x_il_6, ↓gi_hA_1, ↓gi_hB_1, ↓x_ge, ↓gr_0_9, ↓c_9, ↓x_ne0, ↓c_114, ↓x_ne, ↓x_il_5, ↓gr_hA_7, ↓gr_hB_7, ↓c_21_hA, ↓c_12, ↓x_inc_6, ↓x_go, ↓gr_hA_13, ↓gr_hB_13, ↓gr_78_8, ↓c_23_hA, ↓x_iadd, ↓c_13, ↓gi_100_0, ↓gi_100_1, ↓x_ir, ↓ld_86, ↓ld_hA_26, ↓ld_hA_27, ↓ld_hA_9, ↓ld_hB_26, ↓ld_hB_27, ↓ld_hB_9, ↓n_101, ↓s_101_0, ↓s_101_124, ↓s_101_130, ↓s_101_179, ↓s_101_186, ↓bk_v, ↓bk_n, ↓bk_r, ↓be_101, ↓pv_i, ↓pv_r, ↓pv_0, ↓pv_l, wz_pk, wz_ti, wz_wz, vI_wz, wz_id, wz_0, List.length_cons, List.length_nil, ↓reduceIte, true_and, and_true, Int.reduceLE, Int.reduceLT, Int.reduceEq, not_true_eq_false, not_false_eq_true, false_or, or_false, true_or, or_true, ite_not, Int.reduceNeg, Int32.reduceToInt, Nat.reduceAdd, Nat.reduceLeDiff, Nat.reduceLT, Nat.reduceEqDiff, Int.reduceAdd, Int.reduceSub, Int.reduceMul, Nat.zero_le, pk_po_ne, pk_po_eq, pk_po_ix, rI, ne_eq, eb, c2, if_true, hC2.at 12 rfl, e2, e3, ↓hsh, ↓hof]
              exact ih2
            · have hok : okCv S d m o n = false := by simp [okCv, c2]
              have ih2 := ih M2 f3 (by rw [g1 _ _ (by decide) (by decide), a1]; simp [kc, hok]) (by rw [g1 _ _ (by decide) (by decide), a2]; simp [smo, hok]) (fun g hg hg2 => by
                by_cases hgn : g = n
                · rw [hgn, hok] at hg2; cases hg2
                · rw [g1 _ _ (by decide) (by decide), g1 _ _ (by decide) (by decide), g1 _ _ (by decide) (by decide)]
                  exact a3 g (by omega) hg2)
              simp (disch := omega) only [↓x_al_0, ↓x_il_1, ↓gd_0_3, ↓gi_hA_2, ↓gi_hB_2, ↓c_109, ↓x_il_2, ↓x_c, ↓c_110, ↓x_il_3, ↓x_il_4, ↓gr_hA_12, ↓gr_hB_12, ↓x_is_5, ↓gr_0_15, ↓c_11, ↓x_is_6, ↓x_il_6, ↓gi_hA_1, ↓gi_hB_1, ↓x_ge, ↓gr_0_9, ↓c_9, ↓x_ne0, ↓c_114, ↓x_ne, ↓x_il_5, ↓gr_hA_7, ↓gr_hB_7, ↓c_21_hA, ↓c_12, ↓x_inc_6, ↓x_go, ↓gr_hA_13, ↓gr_hB_13, ↓gr_78_8, ↓c_23_hA, ↓x_iadd, ↓c_13, ↓gi_100_0, ↓gi_100_1, ↓x_ir, ↓ld_86, ↓ld_hA_26, ↓ld_hA_27, ↓ld_hA_9, ↓ld_hB_26, ↓ld_hB_27, ↓ld_hB_9, ↓n_101, ↓s_101_0, ↓s_101_124, ↓s_101_130, ↓s_101_179, ↓s_101_186, ↓bk_v, ↓bk_n, ↓bk_r, ↓be_101, ↓pv_i, ↓pv_r, ↓pv_0, ↓pv_l, wz_pk, wz_ti, wz_wz, vI_wz, wz_id, wz_0, List.length_cons, List.length_nil, ↓reduceIte, true_and, and_true, Int.reduceLE, Int.reduceLT, Int.reduceEq, not_true_eq_false, not_false_eq_true, false_or, or_false, true_or, or_true, ite_not, Int.reduceNeg, Int32.reduceToInt, Nat.reduceAdd, Nat.reduceLeDiff, Nat.reduceLT, Nat.reduceEqDiff, Int.reduceAdd, Int.reduceSub, Int.reduceMul, Nat.zero_le, pk_po_ne, pk_po_eq, pk_po_ix, rI, ne_eq, eb, c2, if_false]
              exact ih2
      have key := key (po (po M 100 2 0) 100 6 0) ((fx.rfl.pw (by decide)).pw (by decide)) (by rw [pk_po_ix (by decide), pk_po_eq]; rfl) (by rw [pk_po_eq]; rfl) (fun g hg => by omega)
      refine ⟨⟨by omega, by omega⟩, ?_⟩
      rw [C11]
      simp only [↓x_al_0, ↓x_il_1, ↓gd_0_3, ↓gi_hA_2, ↓gi_hB_2, ↓c_109, ↓x_il_2, ↓x_c, ↓c_110, ↓x_il_3, ↓x_il_4, ↓gr_hA_12, ↓gr_hB_12, ↓x_is_5, ↓gr_0_15, ↓c_11, ↓x_is_6, ↓x_il_6, ↓gi_hA_1, ↓gi_hB_1, ↓x_ge, ↓gr_0_9, ↓c_9, ↓x_ne0, ↓c_114, ↓x_ne, ↓x_il_5, ↓gr_hA_7, ↓gr_hB_7, ↓c_21_hA, ↓c_12, ↓x_inc_6, ↓x_go, ↓gr_hA_13, ↓gr_hB_13, ↓gr_78_8, ↓c_23_hA, ↓x_iadd, ↓c_13, ↓gi_100_0, ↓gi_100_1, ↓x_ir, ↓ld_86, ↓ld_hA_26, ↓ld_hA_27, ↓ld_hA_9, ↓ld_hB_26, ↓ld_hB_27, ↓ld_hB_9, ↓n_101, ↓s_101_0, ↓s_101_124, ↓s_101_130, ↓s_101_179, ↓s_101_186, ↓bk_v, ↓bk_n, ↓bk_r, ↓be_101, ↓pv_i, ↓pv_r, ↓pv_0, ↓pv_l, wz_pk, wz_ti, wz_wz, vI_wz, wz_id, wz_0, List.length_cons, List.length_nil, ↓reduceIte, true_and, and_true, Int.reduceLE, Int.reduceLT, Int.reduceEq, not_true_eq_false, not_false_eq_true, false_or, or_false, true_or, or_true, ite_not, Int.reduceNeg, Int32.reduceToInt, Nat.reduceAdd, Nat.reduceLeDiff, Nat.reduceLT, Nat.reduceEqDiff, Int.reduceAdd, Int.reduceSub, Int.reduceMul, Nat.zero_le, pk_po_ne, pk_po_eq, pk_po_ix, rI, ne_eq]
      exact key
    · have e := hP.no 1 (by rw [o_cover, if_pos h1, if_neg h2]; rfl) hC.ref (FC.rfl.pw (by decide))
      by_cases c1 : 0 ≤ m ∧ m ≤ 9999
      · rw [if_pos c1]
        by_cases c2 : 0 ≤ o ∧ o ≤ 2
        · rw [if_pos c2, if_neg (fun h => h2 ⟨⟨c1, c2⟩, h⟩)]
          exact e
        · rw [if_neg c2]
          exact e
      · rw [if_neg c1]
        exact e
  · rw [if_neg h1]
    exact hP.no 0 (by rw [o_cover, if_neg h1]; rfl) hC.ref (FC.rfl.pw (by decide))
end C56
