section R75
variable {Q : MOut → MHp → Prop} {X : Nat × (Nat → Int32)} {s : Bool × Bool} {dh dl t : Nat} {M : Mem} {S : St} {p n : Int}
theorem R131b {lo hi : Int} (hb : ¬ pk M 142 5 = -1) : CL 131 [.ref 142, vI lo, vI hi] (mkh X s dh dl t M) Q ↔ Q (rI 0) (mkh X s dh dl t M) := by
  simp only [↓x_al_0, ↓c_123, ↓x_ne0, ↓x_c, ↓x_ir, ↓c_125, ↓x_is_3, ↓gi_142_4, ↓x_is_4, ↓x_is_5, ↓x_il_3, ↓c_127, ↓c_124, ↓gi_142_3, ↓x_ge, ↓gr_142_9, ↓x_eq0, ↓x_il_5, ↓x_le, ↓x_go, ↓x_imul, ↓x_iadd, ↓x_isub, ↓x_dup_i, ↓x_dup_r, ↓pi_142_4, ↓x_il_1, ↓x_lt, ↓x_il_2, ↓x_il_4, ↓ld_144, ↓n_131, ↓s_131_0, ↓s_131_9, ↓s_131_79, ↓s_131_97, ↓s_131_112, ↓s_131_124, ↓s_131_133, ↓bk_v, ↓bk_n, ↓bk_r, ↓pv_i, ↓pv_r, ↓pv_0, ↓pv_l, wz_pk, wz_ti, wz_wz, vI_wz, wz_id, wz_0, List.length_cons, List.length_nil, ↓reduceIte, true_and, and_true, Int.reduceLE, Int.reduceLT, Int.reduceEq, not_true_eq_false, not_false_eq_true, false_or, or_false, true_or, or_true, ite_not, Int.reduceNeg, Int32.reduceToInt, Nat.reduceAdd, Nat.reduceLeDiff, Nat.reduceLT, Nat.reduceEqDiff, Int.reduceAdd, Int.reduceSub, Int.reduceMul, Nat.zero_le, pk_po_ne, pk_po_eq, pk_po_ix, rI, ne_eq, ↓R123, hb, decide_false, bi_wz, bi_0, if_true]
theorem R131y {lo hi : Int} (hT : TR S n M) (h0 : 0 ≤ p) (h1 : p ≤ n) (hb : pk M 142 5 = -1) (hlo : wz lo = lo) (hhi : wz hi = hi) (hl : lo ≤ 99999) (hh : hi ≤ 99999)
    (hq : ∀ e v, rdN S n lo hi p = (0, e, v) → Q (rI v) (mkh X s dh dl t (ra M e))) (hx : ∀ k x, ¬ k = 0 → rdN S n lo hi p = (k, x, 0) → ∀ y, 0 ≤ y → y ≤ n → Q (rI 0) (mkh X s dh dl t (ra (po (po M 142 5 x) 142 6 k) y))) : CL 131 [.ref 142, vI lo, vI hi] (mkh X s dh dl t (ra M p)) Q := by
  have hs := sk_rng (S := S) h1
  have hd := dg_rng (S := S) hs.2
  have hT' := hT
  obtain ⟨t1, t2, t3⟩ := hT'
  have hall := fun j a b => scF_all (c := isD S n) (n - sk S n p).toNat (sk S n p) j a b
  have hdig : ∀ j, sk S n p ≤ j → j < dg S n (sk S n p) → 48 ≤ S 1 j ∧ S 1 j ≤ 57 := by
    intro j a b
    have := hall j a b
    unfold isD at this
    simp at this
    omega
  have hnv := nvF_rng (S := S) (dg S n (sk S n p) - sk S n p).toNat (sk S n p) 0 (fun j a b => hdig j a (by omega)) (by omega) (by omega)
  have hnv' : 0 ≤ nv S (sk S n p) (dg S n (sk S n p)) ∧ nv S (sk S n p) (dg S n (sk S n p)) ≤ 100000 := hnv
  clear hnv
  have hfi : ∀ y, pk (ra M y) 142 5 = -1 := fun y => by rw [ra_x (by decide)]; exact hb
  have tail : ¬ dg S n (sk S n p) = sk S n p → ∀ v c, 0 ≤ v → v ≤ 1000000 → min v 100000 = nv S (sk S n p) (dg S n (sk S n p)) → EX 131 (sx 131 112) [.ref 142, vI lo, vI hi, vI c, vI (sk S n p), vI v] [] (mkh X s dh dl t (ra M (dg S n (sk S n p)))) Q := by
    intro c1 v c v0 v1 v2
    rw [s_131_112]
    by_cases c2 : nv S (sk S n p) (dg S n (sk S n p)) < lo ∨ hi < nv S (sk S n p) (dg S n (sk S n p))
    · have e := hx 2 (sk S n p) (by decide) (by rw [rdN, if_neg c1, if_pos c2]) (dg S n (sk S n p)) (by omega) (by omega)
      by_cases c3 : v < lo
      · simp (disch := omega) only [↓x_al_0, ↓c_123, ↓x_ne0, ↓x_c, ↓x_ir, ↓c_125, ↓x_is_3, ↓gi_142_4, ↓x_is_4, ↓x_is_5, ↓x_il_3, ↓c_127, ↓c_124, ↓gi_142_3, ↓x_ge, ↓gr_142_9, ↓x_eq0, ↓x_il_5, ↓x_le, ↓x_go, ↓x_imul, ↓x_iadd, ↓x_isub, ↓x_dup_i, ↓x_dup_r, ↓pi_142_4, ↓x_il_1, ↓x_lt, ↓x_il_2, ↓x_il_4, ↓ld_144, ↓n_131, ↓s_131_0, ↓s_131_9, ↓s_131_79, ↓s_131_97, ↓s_131_112, ↓s_131_124, ↓s_131_133, ↓bk_v, ↓bk_n, ↓bk_r, ↓pv_i, ↓pv_r, ↓pv_0, ↓pv_l, wz_pk, wz_ti, wz_wz, vI_wz, wz_id, wz_0, List.length_cons, List.length_nil, ↓reduceIte, true_and, and_true, Int.reduceLE, Int.reduceLT, Int.reduceEq, not_true_eq_false, not_false_eq_true, false_or, or_false, true_or, or_true, ite_not, Int.reduceNeg, Int32.reduceToInt, Nat.reduceAdd, Nat.reduceLeDiff, Nat.reduceLT, Nat.reduceEqDiff, Int.reduceAdd, Int.reduceSub, Int.reduceMul, Nat.zero_le, pk_po_ne, pk_po_eq, pk_po_ix, rI, ne_eq, hlo, hhi, c3, if_true, ↓R124f (hfi _), ra_px]
        exact e
      · have c4 : ¬ v ≤ hi := by omega
        simp (disch := omega) only [↓x_al_0, ↓c_123, ↓x_ne0, ↓x_c, ↓x_ir, ↓c_125, ↓x_is_3, ↓gi_142_4, ↓x_is_4, ↓x_is_5, ↓x_il_3, ↓c_127, ↓c_124, ↓gi_142_3, ↓x_ge, ↓gr_142_9, ↓x_eq0, ↓x_il_5, ↓x_le, ↓x_go, ↓x_imul, ↓x_iadd, ↓x_isub, ↓x_dup_i, ↓x_dup_r, ↓pi_142_4, ↓x_il_1, ↓x_lt, ↓x_il_2, ↓x_il_4, ↓ld_144, ↓n_131, ↓s_131_0, ↓s_131_9, ↓s_131_79, ↓s_131_97, ↓s_131_112, ↓s_131_124, ↓s_131_133, ↓bk_v, ↓bk_n, ↓bk_r, ↓pv_i, ↓pv_r, ↓pv_0, ↓pv_l, wz_pk, wz_ti, wz_wz, vI_wz, wz_id, wz_0, List.length_cons, List.length_nil, ↓reduceIte, true_and, and_true, Int.reduceLE, Int.reduceLT, Int.reduceEq, not_true_eq_false, not_false_eq_true, false_or, or_false, true_or, or_true, ite_not, Int.reduceNeg, Int32.reduceToInt, Nat.reduceAdd, Nat.reduceLeDiff, Nat.reduceLT, Nat.reduceEqDiff, Int.reduceAdd, Int.reduceSub, Int.reduceMul, Nat.zero_le, pk_po_ne, pk_po_eq, pk_po_ix, rI, ne_eq, hlo, hhi, c3, c4, if_true, if_false, ↓R124f (hfi _), ra_px]
        exact e
    · have c3 : ¬ v < lo := by omega
      have c4 : v ≤ hi := by omega
      have e := hq _ _ (by rw [rdN, if_neg c1, if_neg c2])
      rw [← v2, show min v 100000 = v by omega] at e
      simp (disch := omega) only [↓x_al_0, ↓c_123, ↓x_ne0, ↓x_c, ↓x_ir, ↓c_125, ↓x_is_3, ↓gi_142_4, ↓x_is_4, ↓x_is_5, ↓x_il_3, ↓c_127, ↓c_124, ↓gi_142_3, ↓x_ge, ↓gr_142_9, ↓x_eq0, ↓x_il_5, ↓x_le, ↓x_go, ↓x_imul, ↓x_iadd, ↓x_isub, ↓x_dup_i, ↓x_dup_r, ↓pi_142_4, ↓x_il_1, ↓x_lt, ↓x_il_2, ↓x_il_4, ↓ld_144, ↓n_131, ↓s_131_0, ↓s_131_9, ↓s_131_79, ↓s_131_97, ↓s_131_112, ↓s_131_124, ↓s_131_133, ↓bk_v, ↓bk_n, ↓bk_r, ↓pv_i, ↓pv_r, ↓pv_0, ↓pv_l, wz_pk, wz_ti, wz_wz, vI_wz, wz_id, wz_0, List.length_cons, List.length_nil, ↓reduceIte, true_and, and_true, Int.reduceLE, Int.reduceLT, Int.reduceEq, not_true_eq_false, not_false_eq_true, false_or, or_false, true_or, or_true, ite_not, Int.reduceNeg, Int32.reduceToInt, Nat.reduceAdd, Nat.reduceLeDiff, Nat.reduceLT, Nat.reduceEqDiff, Int.reduceAdd, Int.reduceSub, Int.reduceMul, Nat.zero_le, pk_po_ne, pk_po_eq, pk_po_ix, rI, ne_eq, hlo, hhi, c3, c4, if_true, if_false]
      exact e
  have key : ¬ dg S n (sk S n p) = sk S n p → ∀ (k : Nat) (u v w c : Int), sk S n p ≤ u → u ≤ n → 0 ≤ v → v ≤ 1000000 → min v 100000 = w → (n - u).toNat = k → scF (isD S n) k u = dg S n (sk S n p) → nvF S (dg S n (sk S n p) - u).toNat u w = nv S (sk S n p) (dg S n (sk S n p)) → EX 131 (sx 131 41) [.ref 142, vI lo, vI hi, vI c, vI (sk S n p), vI v] [] (mkh X s dh dl t (ra M u)) Q := by
    intro c1 k
    induction k with
    | zero =>
      intro u v w c a b v0 v1 v2 g i j
      have e1 : n ≤ u := by omega
      simp only [scF] at i
      rw [← i, show (u - u).toNat = 0 by omega, nvF] at j
      have tl := tail c1 v c v0 v1 (by rw [v2, ← i]; exact j)
      rw [← i] at tl
      rw [s_131_41]
      simp (disch := omega) only [↓x_al_0, ↓c_123, ↓x_ne0, ↓x_c, ↓x_ir, ↓c_125, ↓x_is_3, ↓gi_142_4, ↓x_is_4, ↓x_is_5, ↓x_il_3, ↓c_127, ↓c_124, ↓gi_142_3, ↓x_ge, ↓gr_142_9, ↓x_eq0, ↓x_il_5, ↓x_le, ↓x_go, ↓x_imul, ↓x_iadd, ↓x_isub, ↓x_dup_i, ↓x_dup_r, ↓pi_142_4, ↓x_il_1, ↓x_lt, ↓x_il_2, ↓x_il_4, ↓ld_144, ↓n_131, ↓s_131_0, ↓s_131_9, ↓s_131_79, ↓s_131_97, ↓s_131_124, ↓s_131_133, ↓bk_v, ↓bk_n, ↓bk_r, ↓pv_i, ↓pv_r, ↓pv_0, ↓pv_l, wz_pk, wz_ti, wz_wz, vI_wz, wz_id, wz_0, List.length_cons, List.length_nil, ↓reduceIte, true_and, and_true, Int.reduceLE, Int.reduceLT, Int.reduceEq, not_true_eq_false, not_false_eq_true, false_or, or_false, true_or, or_true, ite_not, Int.reduceNeg, Int32.reduceToInt, Nat.reduceAdd, Nat.reduceLeDiff, Nat.reduceLT, Nat.reduceEqDiff, Int.reduceAdd, Int.reduceSub, Int.reduceMul, Nat.zero_le, pk_po_ne, pk_po_eq, pk_po_ix, rI, ne_eq, ra_4, ra_x, ra_n, t2, e1, if_true]
      exact tl
    | succ k ih =>
      intro u v w c a b v0 v1 v2 g i j
      have e1 : ¬ n ≤ u := by omega
      have e2 : u < 600 := by omega
      have e0 : (0 : Int) ≤ u := by omega
      have e4 := t1 u e0 (by omega)
      simp only [scF] at i
      rw [s_131_41]
      by_cases c2 : isD S n u = true
      · rw [if_pos c2] at i
        have c3 := c2
        unfold isD at c3
        simp only [decide_eq_true_eq] at c3
        have c4 : 48 ≤ S 1 u ∧ S 1 u ≤ 57 := c3.2
        have hu := scF_rng (c := isD S n) k (u + 1)
        have j2 : nvF S (dg S n (sk S n p) - (u + 1)).toNat (u + 1) (min 100000 (w * 10 + S 1 u - 48)) = nv S (sk S n p) (dg S n (sk S n p)) := by
          rw [← j, show (dg S n (sk S n p) - u).toNat = (dg S n (sk S n p) - (u + 1)).toNat + 1 by omega, nvF]
        by_cases c5 : v ≤ 99999
        · have ih2 := ih (u + 1) (10 * v + S 1 u - 48) (min 100000 (w * 10 + S 1 u - 48)) c (by omega) (by omega) (by omega) (by omega) (by omega) (by omega) i j2
          simp (disch := omega) only [↓x_al_0, ↓c_123, ↓x_ne0, ↓x_c, ↓x_ir, ↓c_125, ↓x_is_3, ↓gi_142_4, ↓x_is_4, ↓x_is_5, ↓x_il_3, ↓c_127, ↓c_124, ↓gi_142_3, ↓x_ge, ↓gr_142_9, ↓x_eq0, ↓x_il_5, ↓x_le, ↓x_go, ↓x_imul, ↓x_iadd, ↓x_isub, ↓x_dup_i, ↓x_dup_r, ↓pi_142_4, ↓x_il_1, ↓x_lt, ↓x_il_2, ↓x_il_4, ↓ld_144, ↓n_131, ↓s_131_0, ↓s_131_9, ↓s_131_79, ↓s_131_97, ↓s_131_124, ↓s_131_133, ↓bk_v, ↓bk_n, ↓bk_r, ↓pv_i, ↓pv_r, ↓pv_0, ↓pv_l, wz_pk, wz_ti, wz_wz, vI_wz, wz_id, wz_0, List.length_cons, List.length_nil, ↓reduceIte, true_and, and_true, Int.reduceLE, Int.reduceLT, Int.reduceEq, not_true_eq_false, not_false_eq_true, false_or, or_false, true_or, or_true, ite_not, Int.reduceNeg, Int32.reduceToInt, Nat.reduceAdd, Nat.reduceLeDiff, Nat.reduceLT, Nat.reduceEqDiff, Int.reduceAdd, Int.reduceSub, Int.reduceMul, Nat.zero_le, pk_po_ne, pk_po_eq, pk_po_ix, rI, ne_eq, ra_4, ra_x, ra_n, ra_p, t2, e1, e2, e0, if_false, e4, wz_of e4, ↓R127, bi_wz, bi_0, decide_eq_false_iff_not, c4, and_self, c5, if_true]
          exact ih2
        · have ih2 := ih (u + 1) 100000 (min 100000 (w * 10 + S 1 u - 48)) c (by omega) (by omega) (by omega) (by omega) (by omega) (by omega) i j2
          simp (disch := omega) only [↓x_al_0, ↓c_123, ↓x_ne0, ↓x_c, ↓x_ir, ↓c_125, ↓x_is_3, ↓gi_142_4, ↓x_is_4, ↓x_is_5, ↓x_il_3, ↓c_127, ↓c_124, ↓gi_142_3, ↓x_ge, ↓gr_142_9, ↓x_eq0, ↓x_il_5, ↓x_le, ↓x_go, ↓x_imul, ↓x_iadd, ↓x_isub, ↓x_dup_i, ↓x_dup_r, ↓pi_142_4, ↓x_il_1, ↓x_lt, ↓x_il_2, ↓x_il_4, ↓ld_144, ↓n_131, ↓s_131_0, ↓s_131_9, ↓s_131_79, ↓s_131_97, ↓s_131_124, ↓s_131_133, ↓bk_v, ↓bk_n, ↓bk_r, ↓pv_i, ↓pv_r, ↓pv_0, ↓pv_l, wz_pk, wz_ti, wz_wz, vI_wz, wz_id, wz_0, List.length_cons, List.length_nil, ↓reduceIte, true_and, and_true, Int.reduceLE, Int.reduceLT, Int.reduceEq, not_true_eq_false, not_false_eq_true, false_or, or_false, true_or, or_true, ite_not, Int.reduceNeg, Int32.reduceToInt, Nat.reduceAdd, Nat.reduceLeDiff, Nat.reduceLT, Nat.reduceEqDiff, Int.reduceAdd, Int.reduceSub, Int.reduceMul, Nat.zero_le, pk_po_ne, pk_po_eq, pk_po_ix, rI, ne_eq, ra_4, ra_x, ra_n, ra_p, t2, e1, e2, e0, if_false, e4, wz_of e4, ↓R127, bi_wz, bi_0, decide_eq_false_iff_not, c4, and_self, c5]
          exact ih2
      · rw [if_neg c2] at i
        rw [← i, show (u - u).toNat = 0 by omega, nvF] at j
        have tl := tail c1 v c v0 v1 (by rw [v2, ← i]; exact j)
        rw [← i] at tl
        have c3 := c2
        unfold isD at c3
        simp only [decide_eq_true_eq] at c3
        have c4 : ¬ (48 ≤ S 1 u ∧ S 1 u ≤ 57) := fun h => c3 ⟨by omega, h⟩
        simp (disch := omega) only [↓x_al_0, ↓c_123, ↓x_ne0, ↓x_c, ↓x_ir, ↓c_125, ↓x_is_3, ↓gi_142_4, ↓x_is_4, ↓x_is_5, ↓x_il_3, ↓c_127, ↓c_124, ↓gi_142_3, ↓x_ge, ↓gr_142_9, ↓x_eq0, ↓x_il_5, ↓x_le, ↓x_go, ↓x_imul, ↓x_iadd, ↓x_isub, ↓x_dup_i, ↓x_dup_r, ↓pi_142_4, ↓x_il_1, ↓x_lt, ↓x_il_2, ↓x_il_4, ↓ld_144, ↓n_131, ↓s_131_0, ↓s_131_9, ↓s_131_79, ↓s_131_97, ↓s_131_124, ↓s_131_133, ↓bk_v, ↓bk_n, ↓bk_r, ↓pv_i, ↓pv_r, ↓pv_0, ↓pv_l, wz_pk, wz_ti, wz_wz, vI_wz, wz_id, wz_0, List.length_cons, List.length_nil, ↓reduceIte, true_and, and_true, Int.reduceLE, Int.reduceLT, Int.reduceEq, not_true_eq_false, not_false_eq_true, false_or, or_false, true_or, or_true, ite_not, Int.reduceNeg, Int32.reduceToInt, Nat.reduceAdd, Nat.reduceLeDiff, Nat.reduceLT, Nat.reduceEqDiff, Int.reduceAdd, Int.reduceSub, Int.reduceMul, Nat.zero_le, pk_po_ne, pk_po_eq, pk_po_ix, rI, ne_eq, ra_4, ra_x, ra_n, ra_p, t2, e1, e2, e0, if_false, e4, wz_of e4, ↓R127, bi_wz, bi_0, decide_eq_false_iff_not, c4, not_false_eq_true, if_true]
        exact tl
  have hch : dg S n (sk S n p) = sk S n p ↔ ¬ (48 ≤ chr S n (sk S n p) ∧ chr S n (sk S n p) ≤ 57) := by
    constructor
    · intro h1 h2
      have h3 := scF_end (c := isD S n) (n := n) isD_n (n - sk S n p).toNat (sk S n p) (by omega)
      have h4 : isD S n (dg S n (sk S n p)) = false := h3
      rw [h1] at h4
      unfold chr at h2
      unfold isD at h4
      simp only [decide_eq_false_iff_not] at h4
      by_cases c : sk S n p < n
      · rw [if_pos c] at h2
        exact h4 ⟨c, h2⟩
      · rw [if_neg c] at h2
        omega
    · intro h2
      by_cases c : dg S n (sk S n p) = sk S n p
      · exact c
      · exfalso
        have h3 := hdig (sk S n p) (by omega) (by omega)
        apply h2
        unfold chr
        rw [if_pos (by omega)]
        exact h3
  have wch : wz (chr S n (sk S n p)) = chr S n (sk S n p) := by
    unfold chr
    by_cases c : sk S n p < n
    · rw [if_pos c]
      exact wz_of (t1 _ (by omega) c)
    · rw [if_neg c]; exact wz_0
  by_cases c1 : dg S n (sk S n p) = sk S n p
  · have c2 := hch.mp c1
    have e := hx 1 (sk S n p) (by decide) (by rw [rdN, if_pos c1]) (sk S n p) (by omega) (by omega)
    simp (disch := omega) only [↓x_al_0, ↓c_123, ↓x_ne0, ↓x_c, ↓x_ir, ↓c_125, ↓x_is_3, ↓gi_142_4, ↓x_is_4, ↓x_is_5, ↓x_il_3, ↓c_127, ↓c_124, ↓gi_142_3, ↓x_ge, ↓gr_142_9, ↓x_eq0, ↓x_il_5, ↓x_le, ↓x_go, ↓x_imul, ↓x_iadd, ↓x_isub, ↓x_dup_i, ↓x_dup_r, ↓pi_142_4, ↓x_il_1, ↓x_lt, ↓x_il_2, ↓x_il_4, ↓ld_144, ↓n_131, ↓s_131_0, ↓s_131_9, ↓s_131_79, ↓s_131_97, ↓s_131_112, ↓s_131_124, ↓s_131_133, ↓bk_v, ↓bk_n, ↓bk_r, ↓pv_i, ↓pv_r, ↓pv_0, ↓pv_l, wz_pk, wz_ti, wz_wz, vI_wz, wz_id, wz_0, List.length_cons, List.length_nil, ↓reduceIte, true_and, and_true, Int.reduceLE, Int.reduceLT, Int.reduceEq, not_true_eq_false, not_false_eq_true, false_or, or_false, true_or, or_true, ite_not, Int.reduceNeg, Int32.reduceToInt, Nat.reduceAdd, Nat.reduceLeDiff, Nat.reduceLT, Nat.reduceEqDiff, Int.reduceAdd, Int.reduceSub, Int.reduceMul, Nat.zero_le, pk_po_ne, pk_po_eq, pk_po_ix, rI, ne_eq, ↓R123, hfi, decide_true, bi_wz, bi_0, Bool.true_eq_false, if_false, ↓R125 hT h0 h1, ↓R127, wch, c2, decide_false, if_true, ra_4, ↓R124f (hfi _), ra_px]
    exact e
  · have c2 : 48 ≤ chr S n (sk S n p) ∧ chr S n (sk S n p) ≤ 57 := by
      by_cases h : 48 ≤ chr S n (sk S n p) ∧ chr S n (sk S n p) ≤ 57
      · exact h
      · exact absurd (hch.mpr h) c1
    have k0 := key c1 _ (sk S n p) 0 0 (chr S n (sk S n p)) (by omega) hs.2 (by omega) (by omega) (by omega) rfl rfl rfl
    simp (disch := omega) only [↓x_al_0, ↓c_123, ↓x_ne0, ↓x_c, ↓x_ir, ↓c_125, ↓x_is_3, ↓gi_142_4, ↓x_is_4, ↓x_is_5, ↓x_il_3, ↓c_127, ↓c_124, ↓gi_142_3, ↓x_ge, ↓gr_142_9, ↓x_eq0, ↓x_il_5, ↓x_le, ↓x_go, ↓x_imul, ↓x_iadd, ↓x_isub, ↓x_dup_i, ↓x_dup_r, ↓pi_142_4, ↓x_il_1, ↓x_lt, ↓x_il_2, ↓x_il_4, ↓ld_144, ↓n_131, ↓s_131_0, ↓s_131_9, ↓s_131_79, ↓s_131_97, ↓s_131_112, ↓s_131_124, ↓s_131_133, ↓bk_v, ↓bk_n, ↓bk_r, ↓pv_i, ↓pv_r, ↓pv_0, ↓pv_l, wz_pk, wz_ti, wz_wz, vI_wz, wz_id, wz_0, List.length_cons, List.length_nil, ↓reduceIte, true_and, and_true, Int.reduceLE, Int.reduceLT, Int.reduceEq, not_true_eq_false, not_false_eq_true, false_or, or_false, true_or, or_true, ite_not, Int.reduceNeg, Int32.reduceToInt, Nat.reduceAdd, Nat.reduceLeDiff, Nat.reduceLT, Nat.reduceEqDiff, Int.reduceAdd, Int.reduceSub, Int.reduceMul, Nat.zero_le, pk_po_ne, pk_po_eq, pk_po_ix, rI, ne_eq, ↓R123, hfi, decide_true, bi_wz, bi_0, Bool.true_eq_false, if_false, ↓R125 hT h0 h1, ↓R127, wch, c2, and_self, ra_4]
    exact k0
theorem R131 {lo hi : Int} (hT : TR S n M) (h0 : 0 ≤ p) (h1 : p ≤ n) (hb : pk M 142 5 = -1) (hlo : wz lo = lo) (hhi : wz hi = hi) (hl : lo ≤ 99999) (hh : hi ≤ 99999)
    (hq : ∀ e v, rdN S n lo hi p = (0, e, v) → Q (rI v) (mkh X s dh dl t (ra M e))) (hx : ∀ k x, ¬ k = 0 → rdN S n lo hi p = (k, x, 0) → ∀ y, Q (rI 0) (mkh X s dh dl t (ra (po (po M 142 5 x) 142 6 k) y))) : CL 131 [.ref 142, vI lo, vI hi] (mkh X s dh dl t (ra M p)) Q := R131y hT h0 h1 hb hlo hhi hl hh hq (fun k x hk hr y _ _ => hx k x hk hr y)
theorem R132b {c : Int} (hb : ¬ pk M 142 5 = -1) : CL 132 [.ref 142, vI c] (mkh X s dh dl t M) Q ↔ Q (.inl none) (mkh X s dh dl t M) := by
  simp only [↓x_al_0, ↓c_123, ↓x_eq0, ↓c_125, ↓x_il_1, ↓x_eq, ↓x_c, ↓gi_142_4, ↓c_124, ↓x_dup_i, ↓x_dup_r, ↓x_iadd, ↓pi_142_4, ↓x_rt, ↓n_132, ↓s_132_0, ↓s_132_24, ↓s_132_41, ↓bk_v, ↓bk_n, ↓bk_r, ↓pv_i, ↓pv_r, ↓pv_0, ↓pv_l, wz_pk, wz_ti, wz_wz, vI_wz, wz_id, wz_0, List.length_cons, List.length_nil, ↓reduceIte, true_and, and_true, Int.reduceLE, Int.reduceLT, Int.reduceEq, not_true_eq_false, not_false_eq_true, false_or, or_false, true_or, or_true, ite_not, Int.reduceNeg, Int32.reduceToInt, Nat.reduceAdd, Nat.reduceLeDiff, Nat.reduceLT, Nat.reduceEqDiff, Int.reduceAdd, Int.reduceSub, Int.reduceMul, Nat.zero_le, pk_po_ne, pk_po_eq, pk_po_ix, rI, ne_eq, ↓R123, hb, decide_false, bi_wz, bi_0, if_true]
theorem R132 {c : Int} (hT : TR S n M) (h0 : 0 ≤ p) (h1 : p ≤ n) (hb : pk M 142 5 = -1) (hc : wz c = c) : CL 132 [.ref 142, vI c] (mkh X s dh dl t (ra M p)) Q ↔ if chr S n (sk S n p) = c then Q (.inl none) (mkh X s dh dl t (ra M (sk S n p + 1))) else Q (.inl none) (mkh X s dh dl t (ra (po (po M 142 5 (sk S n p)) 142 6 1) (sk S n p))) := by
  have hs := sk_rng (S := S) h1
  have t3 := hT.2.2
  have hfi : ∀ y, pk (ra M y) 142 5 = -1 := fun y => by rw [ra_x (by decide)]; exact hb
  have wch : wz (chr S n (sk S n p)) = chr S n (sk S n p) := by
    unfold chr
    by_cases c : sk S n p < n
    · rw [if_pos c]
      exact wz_of (hT.1 _ (by omega) c)
    · rw [if_neg c]; exact wz_0
  by_cases c1 : chr S n (sk S n p) = c
  · rw [if_pos c1]
    simp (disch := omega) only [↓x_al_0, ↓c_123, ↓x_eq0, ↓c_125, ↓x_il_1, ↓x_eq, ↓x_c, ↓gi_142_4, ↓c_124, ↓x_dup_i, ↓x_dup_r, ↓x_iadd, ↓pi_142_4, ↓x_rt, ↓n_132, ↓s_132_0, ↓s_132_24, ↓s_132_41, ↓bk_v, ↓bk_n, ↓bk_r, ↓pv_i, ↓pv_r, ↓pv_0, ↓pv_l, wz_pk, wz_ti, wz_wz, vI_wz, wz_id, wz_0, List.length_cons, List.length_nil, ↓reduceIte, true_and, and_true, Int.reduceLE, Int.reduceLT, Int.reduceEq, not_true_eq_false, not_false_eq_true, false_or, or_false, true_or, or_true, ite_not, Int.reduceNeg, Int32.reduceToInt, Nat.reduceAdd, Nat.reduceLeDiff, Nat.reduceLT, Nat.reduceEqDiff, Int.reduceAdd, Int.reduceSub, Int.reduceMul, Nat.zero_le, pk_po_ne, pk_po_eq, pk_po_ix, rI, ne_eq, ↓R123, hfi, decide_true, bi_wz, bi_0, Bool.true_eq_false, if_false, ↓R125 hT h0 h1, wch, hc, c1, if_true, ra_4, ra_p]
  · rw [if_neg c1]
    have z1 : ¬ sk S n p = -1 := by omega
    have z2 : pk (ra (po (po M 142 5 (sk S n p)) 142 6 1) (sk S n p)) 142 5 = sk S n p := by
      rw [ra_x (by decide), pk_po_ix (by decide), pk_po_eq]; exact wz_id (by omega) (by omega)
    simp (disch := omega) only [↓x_al_0, ↓c_123, ↓x_eq0, ↓c_125, ↓x_il_1, ↓x_eq, ↓x_c, ↓gi_142_4, ↓c_124, ↓x_dup_i, ↓x_dup_r, ↓x_iadd, ↓pi_142_4, ↓x_rt, ↓n_132, ↓s_132_0, ↓s_132_24, ↓s_132_41, ↓bk_v, ↓bk_n, ↓bk_r, ↓pv_i, ↓pv_r, ↓pv_0, ↓pv_l, wz_pk, wz_ti, wz_wz, vI_wz, wz_id, wz_0, List.length_cons, List.length_nil, ↓reduceIte, true_and, and_true, Int.reduceLE, Int.reduceLT, Int.reduceEq, not_true_eq_false, not_false_eq_true, false_or, or_false, true_or, or_true, ite_not, Int.reduceNeg, Int32.reduceToInt, Nat.reduceAdd, Nat.reduceLeDiff, Nat.reduceLT, Nat.reduceEqDiff, Int.reduceAdd, Int.reduceSub, Int.reduceMul, Nat.zero_le, pk_po_ne, pk_po_eq, pk_po_ix, rI, ne_eq, ↓R123, hfi, decide_true, bi_wz, bi_0, Bool.true_eq_false, if_false, ↓R125 hT h0 h1, wch, hc, c1, if_true, ra_4, ↓R124f (hfi _), ra_px, z2, z1, decide_false]
theorem R133 (hT : TR S n M) (h0 : 0 ≤ p) (h1 : p ≤ n) : CL 133 [.ref 142] (mkh X s dh dl t (ra M p)) Q ↔ Q (rI (bi (decide (sk S n p < n)))) (mkh X s dh dl t (ra M (sk S n p))) := by
  have hs := sk_rng (S := S) h1
  have t2 := hT.2.1
  have t3 := hT.2.2
  simp (disch := omega) only [↓x_al_0, ↓c_125, ↓x_pop_i, ↓x_pop_r, ↓gi_142_4, ↓gi_142_3, ↓x_ge, ↓x_c, ↓x_go, ↓x_irz, ↓n_133, ↓s_133_0, ↓s_133_20, ↓s_133_21, ↓bk_v, ↓bk_n, ↓bk_r, ↓pv_i, ↓pv_r, ↓pv_0, ↓pv_l, wz_pk, wz_ti, wz_wz, vI_wz, wz_id, wz_0, List.length_cons, List.length_nil, ↓reduceIte, true_and, and_true, Int.reduceLE, Int.reduceLT, Int.reduceEq, not_true_eq_false, not_false_eq_true, false_or, or_false, true_or, or_true, ite_not, Int.reduceNeg, Int32.reduceToInt, Nat.reduceAdd, Nat.reduceLeDiff, Nat.reduceLT, Nat.reduceEqDiff, Int.reduceAdd, Int.reduceSub, Int.reduceMul, Nat.zero_le, pk_po_ne, pk_po_eq, pk_po_ix, rI, ne_eq, ↓R125 hT h0 h1, ra_4, ra_x, t2]
  unfold bi
  by_cases c : sk S n p < n
  · rw [if_neg (by omega)]; simp [c]
  · rw [if_pos (by omega)]; simp [c]
theorem R134 : CL 134 [.ref 142, vI n] (mkh X s dh dl t M) Q ↔ Q (.inl none) (mkh X s dh dl t (po (po (po (po (po (po M 142 2 0) 142 8 (-1)) 142 3 n) 142 4 0) 142 5 (-1)) 142 7 0)) := by
  simp only [↓x_al_0, ↓x_c, ↓pi_142_2, ↓pi_142_8, ↓x_il_1, ↓pi_142_3, ↓pi_142_4, ↓pi_142_5, ↓pi_142_7, ↓x_rt, ↓n_134, ↓s_134_0, ↓pv_i, ↓pv_r, ↓pv_0, ↓pv_l, wz_pk, wz_ti, wz_wz, vI_wz, wz_id, wz_0, List.length_cons, List.length_nil, ↓reduceIte, true_and, and_true, Int.reduceLE, Int.reduceLT, Int.reduceEq, not_true_eq_false, not_false_eq_true, false_or, or_false, true_or, or_true, ite_not, Int.reduceNeg, Int32.reduceToInt, Nat.reduceAdd, Nat.reduceLeDiff, Nat.reduceLT, Nat.reduceEqDiff, Int.reduceAdd, Int.reduceSub, Int.reduceMul, Nat.zero_le, pk_po_ne, pk_po_eq, pk_po_ix, rI, ne_eq]
theorem R135 {g : Int} : CL 135 [.ref 142, vI g] (mkh X s dh dl t M) Q ↔ if pk M 142 5 = -1 then Q (rI g) (mkh X s dh dl t (po M 142 8 (-1))) else Q (rI (pk M 142 6 - 10)) (mkh X s dh dl t (po M 142 8 (pk M 142 5))) := by
  by_cases c : pk M 142 5 = -1
  · rw [if_pos c]
    have f1 : pk (po M 142 8 (-1)) 142 5 = -1 := by rw [pk_po_ix (by decide)]; exact c
    simp only [↓x_al_0, ↓gi_142_5, ↓pi_142_8, ↓c_123, ↓x_eq0, ↓x_il_1, ↓x_go, ↓gi_142_6, ↓x_c, ↓x_isub, ↓x_ir, ↓n_135, ↓s_135_0, ↓s_135_19, ↓s_135_26, ↓bk_v, ↓bk_n, ↓bk_r, ↓pv_i, ↓pv_r, ↓pv_0, ↓pv_l, wz_pk, wz_ti, wz_wz, vI_wz, wz_id, wz_0, List.length_cons, List.length_nil, ↓reduceIte, true_and, and_true, Int.reduceLE, Int.reduceLT, Int.reduceEq, not_true_eq_false, not_false_eq_true, false_or, or_false, true_or, or_true, ite_not, Int.reduceNeg, Int32.reduceToInt, Nat.reduceAdd, Nat.reduceLeDiff, Nat.reduceLT, Nat.reduceEqDiff, Int.reduceAdd, Int.reduceSub, Int.reduceMul, Nat.zero_le, pk_po_ne, pk_po_eq, pk_po_ix, rI, ne_eq, c, ↓R123, f1, decide_true, bi_wz, bi_0, Bool.true_eq_false, if_false]
  · rw [if_neg c]
    have f1 : ¬ pk (po M 142 8 (pk M 142 5)) 142 5 = -1 := by rw [pk_po_ix (by decide)]; exact c
    have f2 : pk (po M 142 8 (pk M 142 5)) 142 6 = pk M 142 6 := pk_po_ix (by decide)
    simp only [↓x_al_0, ↓gi_142_5, ↓pi_142_8, ↓c_123, ↓x_eq0, ↓x_il_1, ↓x_go, ↓gi_142_6, ↓x_c, ↓x_isub, ↓x_ir, ↓n_135, ↓s_135_0, ↓s_135_19, ↓s_135_26, ↓bk_v, ↓bk_n, ↓bk_r, ↓pv_i, ↓pv_r, ↓pv_0, ↓pv_l, wz_pk, wz_ti, wz_wz, vI_wz, wz_id, wz_0, List.length_cons, List.length_nil, ↓reduceIte, true_and, and_true, Int.reduceLE, Int.reduceLT, Int.reduceEq, not_true_eq_false, not_false_eq_true, false_or, or_false, true_or, or_true, ite_not, Int.reduceNeg, Int32.reduceToInt, Nat.reduceAdd, Nat.reduceLeDiff, Nat.reduceLT, Nat.reduceEqDiff, Int.reduceAdd, Int.reduceSub, Int.reduceMul, Nat.zero_le, pk_po_ne, pk_po_eq, pk_po_ix, rI, ne_eq, ↓R123, c, decide_false, bi_wz, bi_0, if_true, f2]
/-- what a clause may change -/
def nfx (a : Nat) (i : Int) : Bool := (decide (145 ≤ a) && decide (a ≤ 148)) || decide (a = 142 ∧ (i = 4 ∨ i = 5 ∨ i = 6 ∨ i = 18 ∨ i = 19 ∨ i = 20))
def NF (M M' : Mem) : Prop := FR M M' ∧ ∀ a i, nfx a i = false → pk M' a i = pk M a i
theorem NF.rfl {M : Mem} : NF M M := ⟨FR.rfl, fun _ _ _ => Eq.refl _⟩
theorem NF.trans {M M' M'' : Mem} (h : NF M M') (h2 : NF M' M'') : NF M M'' := ⟨h.1.trans h2.1, fun a i ha => by rw [h2.2 a i ha, h.2 a i ha]⟩
theorem NF.pw {M M' : Mem} {a : Nat} {i x : Int} (h : NF M M') (ha : nfx a i = true) : NF M (po M' a i x) := by
  refine ⟨h.1.pw ?_, fun b j hb => ?_⟩
  · simp only [nfx, Bool.or_eq_true, Bool.and_eq_true, decide_eq_true_eq] at ha
    omega
  · rw [pk_po, if_neg, h.2 b j hb]
    rintro ⟨rfl, rfl⟩
    rw [hb] at ha
    cases ha
theorem NF.fil {M M' : Mem} {a : Nat} {f m x : Int} (h : NF M M') (ha : 145 ≤ a ∧ a ≤ 148) : NF M (flm M' a f m x) := by
  refine ⟨fun b hb => ?_, fun b j hb => ?_⟩
  · funext j
    unfold flm
    rw [if_neg (by omega), h.1 b hb]
  · rw [pk_flm, if_neg, h.2 b j hb]
    rintro ⟨rfl, -⟩
    simp [nfx, ha] at hb
theorem RR.nf {M M' : Mem} (h : RR S M) (hf : NF M M') : RR S M' := h.sm (fun a i ha => hf.2 a i (by
  simp only [rst, Bool.or_eq_true, Bool.and_eq_true, decide_eq_true_eq] at ha
  simp only [nfx, Bool.or_eq_false_iff, Bool.and_eq_false_iff, decide_eq_false_iff_not]
  omega))
theorem TR.nf {M' : Mem} (h : TR S n M) (hf : NF M M') : TR S n M' := ⟨fun i a b => by rw [hf.2 _ _ _root_.rfl]; exact h.1 i a b, by rw [hf.2 _ _ _root_.rfl]; exact h.2.1, h.2.2⟩
theorem TR.st {S' : St} (h : TR S n M) (hS : S' 1 = S 1) : TR S' n M := by
  unfold TR at *
  rw [hS]
  exact h
theorem NF.ra {M M' : Mem} {p : Int} (h : NF M M') : NF M (ra M' p) := h.pw _root_.rfl
def RN (S : St) (M : Mem) : Prop :=
  (pk M 142 18 = S 33 0) ∧ (pk M 142 19 = S 33 1) ∧ (pk M 142 20 = S 33 2) ∧ (∀ p, 0 ≤ p → p < S 33 0 → pk M 145 (38 * p) = S 34 p) ∧ (∀ p u, 0 ≤ p → p < S 33 0 → 0 ≤ u → u < 36 → pk M 145 (38 * p + 1 + u) = S 35 (36 * p + u))
  ∧ (∀ p, 0 ≤ p → p < S 33 0 → pk M 145 (38 * p + 37) = if S 40 p = 10000 then -1 else S 40 p) ∧ (∀ g, 0 ≤ g → g < S 33 1 → pk M 146 (9 * g) = S 41 g) ∧ (∀ g, 0 ≤ g → g < S 33 1 → pk M 146 (9 * g + 1) = S 42 g) ∧ (∀ g, 0 ≤ g → g < S 33 1 → pk M 146 (9 * g + 2) = S 43 g)
  ∧ (∀ g, 0 ≤ g → g < S 33 1 → pk M 146 (9 * g + 3) = S 57 g) ∧ (∀ g, 0 ≤ g → g < S 33 1 → pk M 146 (9 * g + 4) = S 58 g) ∧ (∀ g p, 0 ≤ g → g < S 33 1 → 0 ≤ p → p < 4 → pk M 146 (9 * g + 5 + p) = S 44 (4 * g + p))
  ∧ (∀ d, 0 ≤ d → d < S 33 2 → pk M 147 (3 * d) = S 59 d) ∧ (∀ d, 0 ≤ d → d < S 33 2 → pk M 147 (3 * d + 1) = S 60 d) ∧ (∀ d, 0 ≤ d → d < S 33 2 → pk M 147 (3 * d + 2) = S 61 d) ∧ (∀ k, 0 ≤ k → k < 4 → pk M 148 k = S 62 k)
theorem RN.np {S : St} {M : Mem} (h : RN S M) : (pk M 142 18 = S 33 0) := h.1
theorem RN.ng {S : St} {M : Mem} (h : RN S M) : (pk M 142 19 = S 33 1) := h.2.1
theorem RN.nd {S : St} {M : Mem} (h : RN S M) : (pk M 142 20 = S 33 2) := h.2.2.1
theorem RN.needs {S : St} {M : Mem} (h : RN S M) : (∀ p, 0 ≤ p → p < S 33 0 → pk M 145 (38 * p) = S 34 p) := h.2.2.2.1
theorem RN.inc {S : St} {M : Mem} (h : RN S M) : (∀ p u, 0 ≤ p → p < S 33 0 → 0 ≤ u → u < 36 → pk M 145 (38 * p + 1 + u) = S 35 (36 * p + u)) := h.2.2.2.2.1
theorem RN.ill {S : St} {M : Mem} (h : RN S M) : (∀ p, 0 ≤ p → p < S 33 0 → pk M 145 (38 * p + 37) = if S 40 p = 10000 then -1 else S 40 p) := h.2.2.2.2.2.1
theorem RN.own {S : St} {M : Mem} (h : RN S M) : (∀ g, 0 ≤ g → g < S 33 1 → pk M 146 (9 * g) = S 41 g) := h.2.2.2.2.2.2.1
theorem RN.wor {S : St} {M : Mem} (h : RN S M) : (∀ g, 0 ≤ g → g < S 33 1 → pk M 146 (9 * g + 1) = S 42 g) := h.2.2.2.2.2.2.2.1
theorem RN.kind {S : St} {M : Mem} (h : RN S M) : (∀ g, 0 ≤ g → g < S 33 1 → pk M 146 (9 * g + 2) = S 43 g) := h.2.2.2.2.2.2.2.2.1
theorem RN.said {S : St} {M : Mem} (h : RN S M) : (∀ g, 0 ≤ g → g < S 33 1 → pk M 146 (9 * g + 3) = S 57 g) := h.2.2.2.2.2.2.2.2.2.1
theorem RN.prf {S : St} {M : Mem} (h : RN S M) : (∀ g, 0 ≤ g → g < S 33 1 → pk M 146 (9 * g + 4) = S 58 g) := h.2.2.2.2.2.2.2.2.2.2.1
theorem RN.tw {S : St} {M : Mem} (h : RN S M) : (∀ g p, 0 ≤ g → g < S 33 1 → 0 ≤ p → p < 4 → pk M 146 (9 * g + 5 + p) = S 44 (4 * g + p)) := h.2.2.2.2.2.2.2.2.2.2.2.1
theorem RN.dbt {S : St} {M : Mem} (h : RN S M) : (∀ d, 0 ≤ d → d < S 33 2 → pk M 147 (3 * d) = S 59 d) := h.2.2.2.2.2.2.2.2.2.2.2.2.1
theorem RN.amt {S : St} {M : Mem} (h : RN S M) : (∀ d, 0 ≤ d → d < S 33 2 → pk M 147 (3 * d + 1) = S 60 d) := h.2.2.2.2.2.2.2.2.2.2.2.2.2.1
theorem RN.writ {S : St} {M : Mem} (h : RN S M) : (∀ d, 0 ≤ d → d < S 33 2 → pk M 147 (3 * d + 2) = S 61 d) := h.2.2.2.2.2.2.2.2.2.2.2.2.2.2.1
theorem RN.fee {S : St} {M : Mem} (h : RN S M) : (∀ k, 0 ≤ k → k < 4 → pk M 148 k = S 62 k) := h.2.2.2.2.2.2.2.2.2.2.2.2.2.2.2
end R75
