/-! A HOUSE'S CLAUSES: what each does to a state (cells 33 to 62: the house that is read) -/
def shN (S : St) : St := fun a => S (a + 30)
def flS (S : St) (a : Nat) (f n x : Int) : St := fun e j => if e = a ∧ f ≤ j ∧ j < f + n then x else S e j
abbrev K3 : Type := Int × Int × St
def bnd (r : Int × Int × Int) (S : St) (g : Int → Int → K3) : K3 := if r.1 = 0 then g r.2.1 r.2.2 else (r.1, r.2.1, S)
theorem bnd_ok {r : Int × Int × Int} {S : St} {g : Int → Int → K3} {x v : Int} (h : r = (0, x, v)) : bnd r S g = g x v := by rw [bnd, h]; rfl
theorem bnd_no {r : Int × Int × Int} {S : St} {g : Int → Int → K3} {k x v : Int} (hk : ¬ k = 0) (h : r = (k, x, v)) : bnd r S g = (k, x, S) := by rw [bnd, h]; simp only [if_neg hk]
def k_person (S : St) (n p : Int) : K3 := bnd (rdN S n 0 999 p) S fun p1 v => bnd (rdN S n 0 999 p1) S fun p2 w => (0, p2, su (su (flS S 35 (36 * S 33 0) 36 v) 34 (S 33 0) w) 33 0 (S 33 0 + 1))
def k_month (S : St) (n p : Int) : K3 := bnd (rdN S n 0 (S 33 0 - 1) p) S fun p1 q => bnd (rdN S n 0 35 p1) S fun p2 m => bnd (rdN S n 0 999 p2) S fun p3 v => (0, p3, su S 35 (36 * q + m) v)
def k_good (S : St) (n p : Int) : K3 := bnd (rdN S n 0 (S 33 0 - 1) p) S fun p1 o => bnd (rdN S n 1 999 p1) S fun p2 w => bnd (rdN S n 0 5 p2) S fun p3 v => (0, p3, su (su (flS (su (su (su S 41 (S 33 1) o) 42 (S 33 1) w) 43 (S 33 1) v) 44 (4 * S 33 1) 4 0) 44 (4 * S 33 1 + o) 12) 33 1 (S 33 1 + 1))
def k_part (S : St) (n p : Int) : K3 := bnd (rdN S n 0 (S 33 1 - 1) p) S fun p1 g => bnd (rdN S n 0 (S 33 0 - 1) p1) S fun p2 q => if ¬ S 44 (4 * g + q) = 0 then (2, sk S n p1, S) else bnd (rdN S n 1 (S 44 (4 * g + S 41 g) - 1) p2) S fun p3 v => (0, p3, su (su S 44 (4 * g + q) v) 44 (4 * g + S 41 g) (S 44 (4 * g + S 41 g) - v))
def k_claim (S : St) (n p : Int) : K3 := bnd (rdN S n 0 (S 33 1 - 1) p) S fun p1 g => bnd (rdN S n 0 9999 p1) S fun p2 u => bnd (rdN S n u 10000 p2) S fun p3 v => (0, p3, su (su S 57 g u) 58 g v)
def k_debt (S : St) (n p : Int) : K3 := bnd (rdN S n 0 (S 33 0 - 1) p) S fun p1 q => bnd (rdN S n 1 9999 p1) S fun p2 u => bnd (rdN S n 0 9999 p2) S fun p3 v => (0, p3, su (su (su (su S 59 (S 33 2) q) 60 (S 33 2) u) 61 (S 33 2) v) 33 2 (S 33 2 + 1))
def k_ill (S : St) (n p : Int) : K3 := bnd (rdN S n 0 (S 33 0 - 1) p) S fun p1 q => bnd (rdN S n 0 9999 p1) S fun p2 u => (0, p2, su S 40 q u)
def k_fee (S : St) (n p : Int) : K3 := bnd (rdN S n 0 3 p) S fun p1 q => bnd (rdN S n 0 99 p1) S fun p2 u => (0, p2, su S 62 q u)
theorem rdN_ok {S : St} {n lo hi p e v : Int} (h1 : p ≤ n) (h : rdN S n lo hi p = (0, e, v)) : (lo ≤ v ∧ v ≤ hi) ∧ (p < e ∧ e ≤ n) := by
  have hs := sk_rng (S := S) h1
  have hd := dg_rng (S := S) hs.2
  unfold rdN at h
  split at h
  · simp at h
  · split at h
    · simp at h
    · simp only [Prod.mk.injEq] at h
      omega
theorem rdN_k {S : St} {n lo hi p k x v : Int} (h : rdN S n lo hi p = (k, x, v)) (hk : ¬ k = 0) : v = 0 ∧ (k = 1 ∨ k = 2) ∧ x = sk S n p := by
  unfold rdN at h
  split at h
  · simp only [Prod.mk.injEq] at h; omega
  · split at h
    · simp only [Prod.mk.injEq] at h; omega
    · simp only [Prod.mk.injEq] at h; omega
theorem RC.fil {S : St} {M : Mem} {a : Nat} {f n x : Int} (h : RC S M) (ha : a ≠ 2) (hx : wz x = x) : RC (flS S a f n x) (flm M a f n x) := by
  refine ⟨fun b hb j => ?_, ?_⟩
  · rw [pk_flm]
    unfold flS
    split
    · exact hx
    · exact h.1 b hb j
  · rw [pk_flm, if_neg (by omega)]
    unfold flS
    rw [if_neg (by omega)]
    exact h.2
theorem FC.fil {M M' : Mem} {a : Nat} {f n x : Int} (h : FC M M') (ha : a < 142) : FC M (flm M' a f n x) := by
  intro b hb hb2
  funext j
  unfold flm
  rw [if_neg (by omega), h b hb hb2]
/-- what a reader of a clause owes its caller -/
def KQ (X : Nat × (Nat → Int32)) (s : Bool × Bool) (dl t : Nat) (M : Mem) (Q : MOut → MHp → Prop) (r : K3) : Prop :=
  (∀ x S' M' f', r = (0, x, S') → RC S' M' → M' 2 = M 2 → FC M M' → Q (rI 1) (mkh X s (hB s) dl t (txm M' x f'))) ∧ (∀ k x S' M', ¬ k = 0 → r = (k, x, S') → FLD M M' k x → Q (rI 0) (mkh X s (hB s) dl t M'))
section C45
variable {Q : MOut → MHp → Prop} {X : Nat × (Nat → Int32)} {s : Bool × Bool} {dh dl t : Nat} {M : Mem} {S : St} {p f n : Int}
theorem KQ.ok {r : K3} {x f' : Int} {S' : St} {M' : Mem} (h : KQ X s dl t M Q r) (e : r = (0, x, S')) (hC : RC S' M') (h2 : M' 2 = M 2) (hF : FC M M') : Q (.inl (some (vI 1))) (mkh X s (hB s) dl t (txm M' x f')) := h.1 x S' M' f' e hC h2 hF
theorem KQ.no {r : K3} {k x : Int} {S' : St} {M' : Mem} (h : KQ X s dl t M Q r) (hk : ¬ k = 0) (e : r = (k, x, S')) (hF : FLD M M' k x) : Q (.inl (some (vI 0))) (mkh X s (hB s) dl t M') := h.2 k x S' M' hk e hF
theorem C29 (hC : RC S M) (hn : pk M 2 1 = n) (h0 : 0 ≤ p) (h1 : p ≤ n) (h2 : n ≤ 600) (hp : 0 ≤ S 33 0 ∧ S 33 0 ≤ 4)
    (hq : ∀ e v, rdN S n 0 (S 33 0 - 1) p = (0, e, v) → Q (rI v) (mkh X s (hB s) dl t (txm M e (sk S n p)))) (hx : ∀ k x, ¬ k = 0 → rdN S n 0 (S 33 0 - 1) p = (k, x, 0) → ∀ M', FLD M M' k x → Q (rI (-1)) (mkh X s (hB s) dl t M')) : CL 29 [.ref 75] (mkh X s (hB s) dl t (txm M p f)) Q := by
  have e := hC.at 33 rfl 0
  simp (disch := omega) only [↓x_al_0, ↓gr_75_0, ↓x_c, ↓gd_75_1, ↓gi_hA_0, ↓gi_hB_0, ↓x_isub, ↓c_74, ↓x_ir, ↓n_29, ↓s_29_0, ↓bk_v, ↓bk_n, ↓bk_r, ↓pv_i, ↓pv_r, ↓pv_0, ↓pv_l, wz_pk, wz_ti, wz_wz, vI_wz, wz_id, wz_0, List.length_cons, List.length_nil, ↓reduceIte, true_and, and_true, Int.reduceLE, Int.reduceLT, Int.reduceEq, not_true_eq_false, not_false_eq_true, false_or, or_false, true_or, or_true, ite_not, Int.reduceNeg, Int32.reduceToInt, Nat.reduceAdd, Nat.reduceLeDiff, Nat.reduceLT, Nat.reduceEqDiff, Int.reduceAdd, Int.reduceSub, Int.reduceMul, Nat.zero_le, pk_po_ne, pk_po_eq, pk_po_ix, rI, ne_eq, tx_o, e]
  refine C74 hC hn h0 h1 h2 rfl (wz_id (by omega) (by omega)) ?_ ?_
  · intro e v hr
    have := hq e v hr
    simp (disch := omega) only [↓x_al_0, ↓gr_75_0, ↓x_c, ↓gd_75_1, ↓gi_hA_0, ↓gi_hB_0, ↓x_isub, ↓c_74, ↓x_ir, ↓n_29, ↓s_29_0, ↓bk_v, ↓bk_n, ↓bk_r, ↓pv_i, ↓pv_r, ↓pv_0, ↓pv_l, wz_pk, wz_ti, wz_wz, vI_wz, wz_id, wz_0, List.length_cons, List.length_nil, ↓reduceIte, true_and, and_true, Int.reduceLE, Int.reduceLT, Int.reduceEq, not_true_eq_false, not_false_eq_true, false_or, or_false, true_or, or_true, ite_not, Int.reduceNeg, Int32.reduceToInt, Nat.reduceAdd, Nat.reduceLeDiff, Nat.reduceLT, Nat.reduceEqDiff, Int.reduceAdd, Int.reduceSub, Int.reduceMul, Nat.zero_le, pk_po_ne, pk_po_eq, pk_po_ix, rI, ne_eq]
    exact this
  · intro k x hk hr M' hM
    have := hx k x hk hr M' hM
    simp (disch := omega) only [↓x_al_0, ↓gr_75_0, ↓x_c, ↓gd_75_1, ↓gi_hA_0, ↓gi_hB_0, ↓x_isub, ↓c_74, ↓x_ir, ↓n_29, ↓s_29_0, ↓bk_v, ↓bk_n, ↓bk_r, ↓pv_i, ↓pv_r, ↓pv_0, ↓pv_l, wz_pk, wz_ti, wz_wz, vI_wz, wz_id, wz_0, List.length_cons, List.length_nil, ↓reduceIte, true_and, and_true, Int.reduceLE, Int.reduceLT, Int.reduceEq, not_true_eq_false, not_false_eq_true, false_or, or_false, true_or, or_true, ite_not, Int.reduceNeg, Int32.reduceToInt, Nat.reduceAdd, Nat.reduceLeDiff, Nat.reduceLT, Nat.reduceEqDiff, Int.reduceAdd, Int.reduceSub, Int.reduceMul, Nat.zero_le, pk_po_ne, pk_po_eq, pk_po_ix, rI, ne_eq]
    exact this
theorem C30 (hC : RC S M) (hn : pk M 2 1 = n) (h0 : 0 ≤ p) (h1 : p ≤ n) (h2 : n ≤ 600) (hp : 0 ≤ S 33 1 ∧ S 33 1 ≤ 12)
    (hq : ∀ e v, rdN S n 0 (S 33 1 - 1) p = (0, e, v) → Q (rI v) (mkh X s (hB s) dl t (txm M e (sk S n p)))) (hx : ∀ k x, ¬ k = 0 → rdN S n 0 (S 33 1 - 1) p = (k, x, 0) → ∀ M', FLD M M' k x → Q (rI (-1)) (mkh X s (hB s) dl t M')) : CL 30 [.ref 75] (mkh X s (hB s) dl t (txm M p f)) Q := by
  have e := hC.at 33 rfl 1
  simp (disch := omega) only [↓x_al_0, ↓gr_75_0, ↓x_c, ↓gd_75_1, ↓gi_hA_1, ↓gi_hB_1, ↓x_isub, ↓c_74, ↓x_ir, ↓n_30, ↓s_30_0, ↓bk_v, ↓bk_n, ↓bk_r, ↓pv_i, ↓pv_r, ↓pv_0, ↓pv_l, wz_pk, wz_ti, wz_wz, vI_wz, wz_id, wz_0, List.length_cons, List.length_nil, ↓reduceIte, true_and, and_true, Int.reduceLE, Int.reduceLT, Int.reduceEq, not_true_eq_false, not_false_eq_true, false_or, or_false, true_or, or_true, ite_not, Int.reduceNeg, Int32.reduceToInt, Nat.reduceAdd, Nat.reduceLeDiff, Nat.reduceLT, Nat.reduceEqDiff, Int.reduceAdd, Int.reduceSub, Int.reduceMul, Nat.zero_le, pk_po_ne, pk_po_eq, pk_po_ix, rI, ne_eq, tx_o, e]
  refine C74 hC hn h0 h1 h2 rfl (wz_id (by omega) (by omega)) ?_ ?_
  · intro e v hr
    have := hq e v hr
    simp (disch := omega) only [↓x_al_0, ↓gr_75_0, ↓x_c, ↓gd_75_1, ↓gi_hA_1, ↓gi_hB_1, ↓x_isub, ↓c_74, ↓x_ir, ↓n_30, ↓s_30_0, ↓bk_v, ↓bk_n, ↓bk_r, ↓pv_i, ↓pv_r, ↓pv_0, ↓pv_l, wz_pk, wz_ti, wz_wz, vI_wz, wz_id, wz_0, List.length_cons, List.length_nil, ↓reduceIte, true_and, and_true, Int.reduceLE, Int.reduceLT, Int.reduceEq, not_true_eq_false, not_false_eq_true, false_or, or_false, true_or, or_true, ite_not, Int.reduceNeg, Int32.reduceToInt, Nat.reduceAdd, Nat.reduceLeDiff, Nat.reduceLT, Nat.reduceEqDiff, Int.reduceAdd, Int.reduceSub, Int.reduceMul, Nat.zero_le, pk_po_ne, pk_po_eq, pk_po_ix, rI, ne_eq]
    exact this
  · intro k x hk hr M' hM
    have := hx k x hk hr M' hM
    simp (disch := omega) only [↓x_al_0, ↓gr_75_0, ↓x_c, ↓gd_75_1, ↓gi_hA_1, ↓gi_hB_1, ↓x_isub, ↓c_74, ↓x_ir, ↓n_30, ↓s_30_0, ↓bk_v, ↓bk_n, ↓bk_r, ↓pv_i, ↓pv_r, ↓pv_0, ↓pv_l, wz_pk, wz_ti, wz_wz, vI_wz, wz_id, wz_0, List.length_cons, List.length_nil, ↓reduceIte, true_and, and_true, Int.reduceLE, Int.reduceLT, Int.reduceEq, not_true_eq_false, not_false_eq_true, false_or, or_false, true_or, or_true, ite_not, Int.reduceNeg, Int32.reduceToInt, Nat.reduceAdd, Nat.reduceLeDiff, Nat.reduceLT, Nat.reduceEqDiff, Int.reduceAdd, Int.reduceSub, Int.reduceMul, Nat.zero_le, pk_po_ne, pk_po_eq, pk_po_ix, rI, ne_eq]
    exact this
theorem C31 (hC : RC S M) (hn : pk M 2 1 = n) (h0 : 0 ≤ p) (h1 : p ≤ n) (h2 : n ≤ 600) (hp : 0 ≤ S 33 0 ∧ S 33 0 ≤ 3) (hK : KQ X s dl t M Q (k_person S n p)) : CL 31 [.ref 75] (mkh X s (hB s) dl t (txm M p f)) Q := by
  simp only [↓x_al_0, ↓gr_75_0, ↓x_c, ↓c_74, ↓x_is_1, ↓x_il_1, ↓x_ne, ↓x_irz, ↓x_is_2, ↓x_il_2, ↓gd_75_1, ↓gr_hA_4, ↓gr_hB_4, ↓gi_hA_0, ↓gi_hB_0, ↓c_201, ↓gr_hA_3, ↓gr_hB_3, ↓x_dup_i, ↓x_dup_r, ↓x_iadd, ↓pi_hA_0, ↓pi_hB_0, ↓st_hA_1, ↓st_hA_2, ↓ar_hA_2, ↓st_hB_1, ↓st_hB_2, ↓ar_hB_2, ↓n_31, ↓s_31_0, ↓s_31_19, ↓s_31_38, ↓bk_v, ↓bk_n, ↓bk_r, ↓pv_i, ↓pv_r, ↓pv_0, ↓pv_l, wz_pk, wz_ti, wz_wz, vI_wz, wz_id, wz_0, List.length_cons, List.length_nil, ↓reduceIte, true_and, and_true, Int.reduceLE, Int.reduceLT, Int.reduceEq, not_true_eq_false, not_false_eq_true, false_or, or_false, true_or, or_true, ite_not, Int.reduceNeg, Int32.reduceToInt, Nat.reduceAdd, Nat.reduceLeDiff, Nat.reduceLT, Nat.reduceEqDiff, Int.reduceAdd, Int.reduceSub, Int.reduceMul, Nat.zero_le, pk_po_ne, pk_po_eq, pk_po_ix, rI, ne_eq]
  refine C74 hC hn h0 h1 h2 rfl rfl ?_ ?_
  · intro e1 v1 hr1
    obtain ⟨b1, c1⟩ := rdN_ok h1 hr1
    have d1 : ¬ v1 = -1 := by omega
    simp (disch := omega) only [↓x_al_0, ↓gr_75_0, ↓x_c, ↓c_74, ↓x_is_1, ↓x_il_1, ↓x_ne, ↓x_irz, ↓x_is_2, ↓x_il_2, ↓gd_75_1, ↓gr_hA_4, ↓gr_hB_4, ↓gi_hA_0, ↓gi_hB_0, ↓c_201, ↓gr_hA_3, ↓gr_hB_3, ↓x_dup_i, ↓x_dup_r, ↓x_iadd, ↓pi_hA_0, ↓pi_hB_0, ↓st_hA_1, ↓st_hA_2, ↓ar_hA_2, ↓st_hB_1, ↓st_hB_2, ↓ar_hB_2, ↓n_31, ↓s_31_0, ↓s_31_19, ↓s_31_38, ↓bk_v, ↓bk_n, ↓bk_r, ↓pv_i, ↓pv_r, ↓pv_0, ↓pv_l, wz_pk, wz_ti, wz_wz, vI_wz, wz_id, wz_0, List.length_cons, List.length_nil, ↓reduceIte, true_and, and_true, Int.reduceLE, Int.reduceLT, Int.reduceEq, not_true_eq_false, not_false_eq_true, false_or, or_false, true_or, or_true, ite_not, Int.reduceNeg, Int32.reduceToInt, Nat.reduceAdd, Nat.reduceLeDiff, Nat.reduceLT, Nat.reduceEqDiff, Int.reduceAdd, Int.reduceSub, Int.reduceMul, Nat.zero_le, pk_po_ne, pk_po_eq, pk_po_ix, rI, ne_eq, d1, if_false]
    refine C74 hC hn (by omega) c1.2 h2 rfl rfl ?_ ?_
    · intro e2 v2 hr2
      obtain ⟨b2, c2⟩ := rdN_ok c1.2 hr2
      have d2 : ¬ v2 = -1 := by omega
      have w1 : wz v1 = v1 := wz_id (by omega) (by omega)
      have w2 : wz v2 = v2 := wz_id (by omega) (by omega)
      have r0 := hC.at 33 rfl 0
      have q4 : S 33 0 < 4 := by omega
      have q0 : (0 : Int) ≤ S 33 0 := hp.1
      have e := hK.ok (M' := po (po (flm M 35 (36 * S 33 0) 36 v1) 34 (S 33 0) v2) 33 0 (S 33 0 + 1)) (f' := sk S n e1) (by rw [k_person, bnd_ok hr1, bnd_ok hr2]) (((hC.fil (by decide) w1).putz (by decide) w2).putz (by decide) (wz_id (by omega) (by omega))) (by funext j; rw [po_ne (by simp), po_ne (by simp)]; unfold flm; rw [if_neg (by simp)]) (((FC.rfl.fil (by decide)).pw (by decide)).pw (by decide))
      simp (disch := omega) only [↓x_al_0, ↓gr_75_0, ↓x_c, ↓c_74, ↓x_is_1, ↓x_il_1, ↓x_ne, ↓x_irz, ↓x_is_2, ↓x_il_2, ↓gd_75_1, ↓gr_hA_4, ↓gr_hB_4, ↓gi_hA_0, ↓gi_hB_0, ↓c_201, ↓gr_hA_3, ↓gr_hB_3, ↓x_dup_i, ↓x_dup_r, ↓x_iadd, ↓pi_hA_0, ↓pi_hB_0, ↓st_hA_1, ↓st_hA_2, ↓ar_hA_2, ↓st_hB_1, ↓st_hB_2, ↓ar_hB_2, ↓n_31, ↓s_31_0, ↓s_31_19, ↓s_31_38, ↓bk_v, ↓bk_n, ↓bk_r, ↓pv_i, ↓pv_r, ↓pv_0, ↓pv_l, wz_pk, wz_ti, wz_wz, vI_wz, wz_id, wz_0, List.length_cons, List.length_nil, ↓reduceIte, true_and, and_true, Int.reduceLE, Int.reduceLT, Int.reduceEq, not_true_eq_false, not_false_eq_true, false_or, or_false, true_or, or_true, ite_not, Int.reduceNeg, Int32.reduceToInt, Nat.reduceAdd, Nat.reduceLeDiff, Nat.reduceLT, Nat.reduceEqDiff, Int.reduceAdd, Int.reduceSub, Int.reduceMul, Nat.zero_le, pk_po_ne, pk_po_eq, pk_po_ix, rI, ne_eq, d2, if_false, tx_o, r0, q4, q0]
      rw [C201 (n := 36) (d := 35) (f := 36 * (cl (S 33 0) 4).toNat) lr_hB_2.1 lr_hB_2.2 (by decide)]
      have ec : ((36 * (cl (S 33 0) 4).toNat : Nat) : Int) = 36 * S 33 0 := by rw [cl_id (by omega) (by omega) (by decide)]; omega
      rw [ec, show ((36 : Nat) : Int) = 36 from rfl, tx_fl (by decide)]
      have r2 : pk (flm M 35 (36 * S 33 0) 36 v1) 33 0 = S 33 0 := by rw [pk_flm, if_neg (by simp)]; exact r0
      simp (disch := omega) only [↓x_al_0, ↓gr_75_0, ↓x_c, ↓c_74, ↓x_is_1, ↓x_il_1, ↓x_ne, ↓x_irz, ↓x_is_2, ↓x_il_2, ↓gd_75_1, ↓gr_hA_4, ↓gr_hB_4, ↓gi_hA_0, ↓gi_hB_0, ↓c_201, ↓gr_hA_3, ↓gr_hB_3, ↓x_dup_i, ↓x_dup_r, ↓x_iadd, ↓pi_hA_0, ↓pi_hB_0, ↓st_hA_1, ↓st_hA_2, ↓ar_hA_2, ↓st_hB_1, ↓st_hB_2, ↓ar_hB_2, ↓n_31, ↓s_31_0, ↓s_31_19, ↓s_31_38, ↓bk_v, ↓bk_n, ↓bk_r, ↓pv_i, ↓pv_r, ↓pv_0, ↓pv_l, wz_pk, wz_ti, wz_wz, vI_wz, wz_id, wz_0, List.length_cons, List.length_nil, ↓reduceIte, true_and, and_true, Int.reduceLE, Int.reduceLT, Int.reduceEq, not_true_eq_false, not_false_eq_true, false_or, or_false, true_or, or_true, ite_not, Int.reduceNeg, Int32.reduceToInt, Nat.reduceAdd, Nat.reduceLeDiff, Nat.reduceLT, Nat.reduceEqDiff, Int.reduceAdd, Int.reduceSub, Int.reduceMul, Nat.zero_le, pk_po_ne, pk_po_eq, pk_po_ix, rI, ne_eq, tx_o, r2, q4, q0, tx_po]
      exact e
    · intro k x hk hr M' hM
      have e := hK.no hk (by rw [k_person, bnd_ok hr1, bnd_no hk hr]) hM
      simp (disch := omega) only [↓x_al_0, ↓gr_75_0, ↓x_c, ↓c_74, ↓x_is_1, ↓x_il_1, ↓x_ne, ↓x_irz, ↓x_is_2, ↓x_il_2, ↓gd_75_1, ↓gr_hA_4, ↓gr_hB_4, ↓gi_hA_0, ↓gi_hB_0, ↓c_201, ↓gr_hA_3, ↓gr_hB_3, ↓x_dup_i, ↓x_dup_r, ↓x_iadd, ↓pi_hA_0, ↓pi_hB_0, ↓st_hA_1, ↓st_hA_2, ↓ar_hA_2, ↓st_hB_1, ↓st_hB_2, ↓ar_hB_2, ↓n_31, ↓s_31_0, ↓s_31_19, ↓s_31_38, ↓bk_v, ↓bk_n, ↓bk_r, ↓pv_i, ↓pv_r, ↓pv_0, ↓pv_l, wz_pk, wz_ti, wz_wz, vI_wz, wz_id, wz_0, List.length_cons, List.length_nil, ↓reduceIte, true_and, and_true, Int.reduceLE, Int.reduceLT, Int.reduceEq, not_true_eq_false, not_false_eq_true, false_or, or_false, true_or, or_true, ite_not, Int.reduceNeg, Int32.reduceToInt, Nat.reduceAdd, Nat.reduceLeDiff, Nat.reduceLT, Nat.reduceEqDiff, Int.reduceAdd, Int.reduceSub, Int.reduceMul, Nat.zero_le, pk_po_ne, pk_po_eq, pk_po_ix, rI, ne_eq]
      exact e
  · intro k x hk hr M' hM
    have e := hK.no hk (by rw [k_person, bnd_no hk hr]) hM
    simp (disch := omega) only [↓x_al_0, ↓gr_75_0, ↓x_c, ↓c_74, ↓x_is_1, ↓x_il_1, ↓x_ne, ↓x_irz, ↓x_is_2, ↓x_il_2, ↓gd_75_1, ↓gr_hA_4, ↓gr_hB_4, ↓gi_hA_0, ↓gi_hB_0, ↓c_201, ↓gr_hA_3, ↓gr_hB_3, ↓x_dup_i, ↓x_dup_r, ↓x_iadd, ↓pi_hA_0, ↓pi_hB_0, ↓st_hA_1, ↓st_hA_2, ↓ar_hA_2, ↓st_hB_1, ↓st_hB_2, ↓ar_hB_2, ↓n_31, ↓s_31_0, ↓s_31_19, ↓s_31_38, ↓bk_v, ↓bk_n, ↓bk_r, ↓pv_i, ↓pv_r, ↓pv_0, ↓pv_l, wz_pk, wz_ti, wz_wz, vI_wz, wz_id, wz_0, List.length_cons, List.length_nil, ↓reduceIte, true_and, and_true, Int.reduceLE, Int.reduceLT, Int.reduceEq, not_true_eq_false, not_false_eq_true, false_or, or_false, true_or, or_true, ite_not, Int.reduceNeg, Int32.reduceToInt, Nat.reduceAdd, Nat.reduceLeDiff, Nat.reduceLT, Nat.reduceEqDiff, Int.reduceAdd, Int.reduceSub, Int.reduceMul, Nat.zero_le, pk_po_ne, pk_po_eq, pk_po_ix, rI, ne_eq]
    exact e
theorem C32 (hC : RC S M) (hn : pk M 2 1 = n) (h0 : 0 ≤ p) (h1 : p ≤ n) (h2 : n ≤ 600) (hp : 0 ≤ S 33 0 ∧ S 33 0 ≤ 4) (hK : KQ X s dl t M Q (k_month S n p)) : CL 32 [.ref 75] (mkh X s (hB s) dl t (txm M p f)) Q := by
  simp only [↓x_al_0, ↓c_29, ↓x_is_1, ↓x_il_1, ↓x_c, ↓x_ne, ↓x_irz, ↓gr_75_0, ↓c_74, ↓x_is_2, ↓x_il_2, ↓x_is_3, ↓x_il_3, ↓gd_75_1, ↓gr_hA_4, ↓gr_hB_4, ↓st_hA_2, ↓ar_hA_2, ↓st_hB_2, ↓ar_hB_2, ↓n_32, ↓s_32_0, ↓s_32_12, ↓s_32_30, ↓s_32_49, ↓bk_v, ↓bk_n, ↓bk_r, ↓pv_i, ↓pv_r, ↓pv_0, ↓pv_l, wz_pk, wz_ti, wz_wz, vI_wz, wz_id, wz_0, List.length_cons, List.length_nil, ↓reduceIte, true_and, and_true, Int.reduceLE, Int.reduceLT, Int.reduceEq, not_true_eq_false, not_false_eq_true, false_or, or_false, true_or, or_true, ite_not, Int.reduceNeg, Int32.reduceToInt, Nat.reduceAdd, Nat.reduceLeDiff, Nat.reduceLT, Nat.reduceEqDiff, Int.reduceAdd, Int.reduceSub, Int.reduceMul, Nat.zero_le, pk_po_ne, pk_po_eq, pk_po_ix, rI, ne_eq]
  refine C29 hC hn h0 h1 h2 hp ?_ ?_
  · intro e1 v1 hr1
    obtain ⟨b1, c1⟩ := rdN_ok h1 hr1
    have d1 : ¬ v1 = -1 := by omega
    simp (disch := omega) only [↓x_al_0, ↓c_29, ↓x_is_1, ↓x_il_1, ↓x_c, ↓x_ne, ↓x_irz, ↓gr_75_0, ↓c_74, ↓x_is_2, ↓x_il_2, ↓x_is_3, ↓x_il_3, ↓gd_75_1, ↓gr_hA_4, ↓gr_hB_4, ↓st_hA_2, ↓ar_hA_2, ↓st_hB_2, ↓ar_hB_2, ↓n_32, ↓s_32_0, ↓s_32_12, ↓s_32_30, ↓s_32_49, ↓bk_v, ↓bk_n, ↓bk_r, ↓pv_i, ↓pv_r, ↓pv_0, ↓pv_l, wz_pk, wz_ti, wz_wz, vI_wz, wz_id, wz_0, List.length_cons, List.length_nil, ↓reduceIte, true_and, and_true, Int.reduceLE, Int.reduceLT, Int.reduceEq, not_true_eq_false, not_false_eq_true, false_or, or_false, true_or, or_true, ite_not, Int.reduceNeg, Int32.reduceToInt, Nat.reduceAdd, Nat.reduceLeDiff, Nat.reduceLT, Nat.reduceEqDiff, Int.reduceAdd, Int.reduceSub, Int.reduceMul, Nat.zero_le, pk_po_ne, pk_po_eq, pk_po_ix, rI, ne_eq, d1, if_false]
    refine C74 hC hn (by omega) c1.2 h2 rfl rfl ?_ ?_
    · intro e2 v2 hr2
      obtain ⟨b2, c2⟩ := rdN_ok c1.2 hr2
      have d2 : ¬ v2 = -1 := by omega
      simp (disch := omega) only [↓x_al_0, ↓c_29, ↓x_is_1, ↓x_il_1, ↓x_c, ↓x_ne, ↓x_irz, ↓gr_75_0, ↓c_74, ↓x_is_2, ↓x_il_2, ↓x_is_3, ↓x_il_3, ↓gd_75_1, ↓gr_hA_4, ↓gr_hB_4, ↓st_hA_2, ↓ar_hA_2, ↓st_hB_2, ↓ar_hB_2, ↓n_32, ↓s_32_0, ↓s_32_12, ↓s_32_30, ↓s_32_49, ↓bk_v, ↓bk_n, ↓bk_r, ↓pv_i, ↓pv_r, ↓pv_0, ↓pv_l, wz_pk, wz_ti, wz_wz, vI_wz, wz_id, wz_0, List.length_cons, List.length_nil, ↓reduceIte, true_and, and_true, Int.reduceLE, Int.reduceLT, Int.reduceEq, not_true_eq_false, not_false_eq_true, false_or, or_false, true_or, or_true, ite_not, Int.reduceNeg, Int32.reduceToInt, Nat.reduceAdd, Nat.reduceLeDiff, Nat.reduceLT, Nat.reduceEqDiff, Int.reduceAdd, Int.reduceSub, Int.reduceMul, Nat.zero_le, pk_po_ne, pk_po_eq, pk_po_ix, rI, ne_eq, d2, if_false]
      refine C74 hC hn (by omega) c2.2 h2 rfl rfl ?_ ?_
      · intro e3 v3 hr3
        obtain ⟨b3, c3⟩ := rdN_ok c2.2 hr3
        have d3 : ¬ v3 = -1 := by omega
        have q1 : v1 < 4 := by omega
        have q2 : 0 ≤ v1 := by omega
        have q3 : v2 < 36 := by omega
        have q4 : 0 ≤ v2 := by omega
        have e := hK.ok (M' := po M 35 (36 * v1 + v2) v3) (f' := sk S n e2) (by rw [k_month, bnd_ok hr1, bnd_ok hr2, bnd_ok hr3]) (hC.putz (by decide) (wz_id (by omega) (by omega))) (by funext j; rw [po_ne (by simp)]) (FC.rfl.pw (by decide))
        simp (disch := omega) only [↓x_al_0, ↓c_29, ↓x_is_1, ↓x_il_1, ↓x_c, ↓x_ne, ↓x_irz, ↓gr_75_0, ↓c_74, ↓x_is_2, ↓x_il_2, ↓x_is_3, ↓x_il_3, ↓gd_75_1, ↓gr_hA_4, ↓gr_hB_4, ↓st_hA_2, ↓ar_hA_2, ↓st_hB_2, ↓ar_hB_2, ↓n_32, ↓s_32_0, ↓s_32_12, ↓s_32_30, ↓s_32_49, ↓bk_v, ↓bk_n, ↓bk_r, ↓pv_i, ↓pv_r, ↓pv_0, ↓pv_l, wz_pk, wz_ti, wz_wz, vI_wz, wz_id, wz_0, List.length_cons, List.length_nil, ↓reduceIte, true_and, and_true, Int.reduceLE, Int.reduceLT, Int.reduceEq, not_true_eq_false, not_false_eq_true, false_or, or_false, true_or, or_true, ite_not, Int.reduceNeg, Int32.reduceToInt, Nat.reduceAdd, Nat.reduceLeDiff, Nat.reduceLT, Nat.reduceEqDiff, Int.reduceAdd, Int.reduceSub, Int.reduceMul, Nat.zero_le, pk_po_ne, pk_po_eq, pk_po_ix, rI, ne_eq, d3, if_false, tx_o, tx_po, q1, q2, q3, q4, cl_id]
        exact e
      · intro k x hk hr M' hM
        have e := hK.no hk (by rw [k_month, bnd_ok hr1, bnd_ok hr2, bnd_no hk hr]) hM
        simp (disch := omega) only [↓x_al_0, ↓c_29, ↓x_is_1, ↓x_il_1, ↓x_c, ↓x_ne, ↓x_irz, ↓gr_75_0, ↓c_74, ↓x_is_2, ↓x_il_2, ↓x_is_3, ↓x_il_3, ↓gd_75_1, ↓gr_hA_4, ↓gr_hB_4, ↓st_hA_2, ↓ar_hA_2, ↓st_hB_2, ↓ar_hB_2, ↓n_32, ↓s_32_0, ↓s_32_12, ↓s_32_30, ↓s_32_49, ↓bk_v, ↓bk_n, ↓bk_r, ↓pv_i, ↓pv_r, ↓pv_0, ↓pv_l, wz_pk, wz_ti, wz_wz, vI_wz, wz_id, wz_0, List.length_cons, List.length_nil, ↓reduceIte, true_and, and_true, Int.reduceLE, Int.reduceLT, Int.reduceEq, not_true_eq_false, not_false_eq_true, false_or, or_false, true_or, or_true, ite_not, Int.reduceNeg, Int32.reduceToInt, Nat.reduceAdd, Nat.reduceLeDiff, Nat.reduceLT, Nat.reduceEqDiff, Int.reduceAdd, Int.reduceSub, Int.reduceMul, Nat.zero_le, pk_po_ne, pk_po_eq, pk_po_ix, rI, ne_eq]
        exact e
    · intro k x hk hr M' hM
      have e := hK.no hk (by rw [k_month, bnd_ok hr1, bnd_no hk hr]) hM
      simp (disch := omega) only [↓x_al_0, ↓c_29, ↓x_is_1, ↓x_il_1, ↓x_c, ↓x_ne, ↓x_irz, ↓gr_75_0, ↓c_74, ↓x_is_2, ↓x_il_2, ↓x_is_3, ↓x_il_3, ↓gd_75_1, ↓gr_hA_4, ↓gr_hB_4, ↓st_hA_2, ↓ar_hA_2, ↓st_hB_2, ↓ar_hB_2, ↓n_32, ↓s_32_0, ↓s_32_12, ↓s_32_30, ↓s_32_49, ↓bk_v, ↓bk_n, ↓bk_r, ↓pv_i, ↓pv_r, ↓pv_0, ↓pv_l, wz_pk, wz_ti, wz_wz, vI_wz, wz_id, wz_0, List.length_cons, List.length_nil, ↓reduceIte, true_and, and_true, Int.reduceLE, Int.reduceLT, Int.reduceEq, not_true_eq_false, not_false_eq_true, false_or, or_false, true_or, or_true, ite_not, Int.reduceNeg, Int32.reduceToInt, Nat.reduceAdd, Nat.reduceLeDiff, Nat.reduceLT, Nat.reduceEqDiff, Int.reduceAdd, Int.reduceSub, Int.reduceMul, Nat.zero_le, pk_po_ne, pk_po_eq, pk_po_ix, rI, ne_eq]
      exact e
  · intro k x hk hr M' hM
    have e := hK.no hk (by rw [k_month, bnd_no hk hr]) hM
    simp (disch := omega) only [↓x_al_0, ↓c_29, ↓x_is_1, ↓x_il_1, ↓x_c, ↓x_ne, ↓x_irz, ↓gr_75_0, ↓c_74, ↓x_is_2, ↓x_il_2, ↓x_is_3, ↓x_il_3, ↓gd_75_1, ↓gr_hA_4, ↓gr_hB_4, ↓st_hA_2, ↓ar_hA_2, ↓st_hB_2, ↓ar_hB_2, ↓n_32, ↓s_32_0, ↓s_32_12, ↓s_32_30, ↓s_32_49, ↓bk_v, ↓bk_n, ↓bk_r, ↓pv_i, ↓pv_r, ↓pv_0, ↓pv_l, wz_pk, wz_ti, wz_wz, vI_wz, wz_id, wz_0, List.length_cons, List.length_nil, ↓reduceIte, true_and, and_true, Int.reduceLE, Int.reduceLT, Int.reduceEq, not_true_eq_false, not_false_eq_true, false_or, or_false, true_or, or_true, ite_not, Int.reduceNeg, Int32.reduceToInt, Nat.reduceAdd, Nat.reduceLeDiff, Nat.reduceLT, Nat.reduceEqDiff, Int.reduceAdd, Int.reduceSub, Int.reduceMul, Nat.zero_le, pk_po_ne, pk_po_eq, pk_po_ix, rI, ne_eq]
    exact e
theorem C35 (hC : RC S M) (hn : pk M 2 1 = n) (h0 : 0 ≤ p) (h1 : p ≤ n) (h2 : n ≤ 600) (hg : 0 ≤ S 33 1 ∧ S 33 1 ≤ 12) (hK : KQ X s dl t M Q (k_claim S n p)) : CL 35 [.ref 75] (mkh X s (hB s) dl t (txm M p f)) Q := by
  simp only [↓x_al_0, ↓c_30, ↓x_is_1, ↓x_il_1, ↓x_c, ↓x_ne, ↓x_irz, ↓gr_75_0, ↓c_74, ↓x_is_2, ↓x_il_2, ↓x_is_3, ↓x_il_3, ↓gd_75_1, ↓gr_hA_10, ↓gr_hB_10, ↓gr_hA_11, ↓gr_hB_11, ↓st_hA_24, ↓st_hA_25, ↓st_hB_24, ↓st_hB_25, ↓n_35, ↓s_35_0, ↓s_35_12, ↓s_35_31, ↓s_35_50, ↓bk_v, ↓bk_n, ↓bk_r, ↓pv_i, ↓pv_r, ↓pv_0, ↓pv_l, wz_pk, wz_ti, wz_wz, vI_wz, wz_id, wz_0, List.length_cons, List.length_nil, ↓reduceIte, true_and, and_true, Int.reduceLE, Int.reduceLT, Int.reduceEq, not_true_eq_false, not_false_eq_true, false_or, or_false, true_or, or_true, ite_not, Int.reduceNeg, Int32.reduceToInt, Nat.reduceAdd, Nat.reduceLeDiff, Nat.reduceLT, Nat.reduceEqDiff, Int.reduceAdd, Int.reduceSub, Int.reduceMul, Nat.zero_le, pk_po_ne, pk_po_eq, pk_po_ix, rI, ne_eq]
  refine C30 hC hn h0 h1 h2 hg ?_ ?_
  · intro e1 v1 hr1
    obtain ⟨b1, c1⟩ := rdN_ok h1 hr1
    have d1 : ¬ v1 = -1 := by omega
    simp (disch := omega) only [↓x_al_0, ↓c_30, ↓x_is_1, ↓x_il_1, ↓x_c, ↓x_ne, ↓x_irz, ↓gr_75_0, ↓c_74, ↓x_is_2, ↓x_il_2, ↓x_is_3, ↓x_il_3, ↓gd_75_1, ↓gr_hA_10, ↓gr_hB_10, ↓gr_hA_11, ↓gr_hB_11, ↓st_hA_24, ↓st_hA_25, ↓st_hB_24, ↓st_hB_25, ↓n_35, ↓s_35_0, ↓s_35_12, ↓s_35_31, ↓s_35_50, ↓bk_v, ↓bk_n, ↓bk_r, ↓pv_i, ↓pv_r, ↓pv_0, ↓pv_l, wz_pk, wz_ti, wz_wz, vI_wz, wz_id, wz_0, List.length_cons, List.length_nil, ↓reduceIte, true_and, and_true, Int.reduceLE, Int.reduceLT, Int.reduceEq, not_true_eq_false, not_false_eq_true, false_or, or_false, true_or, or_true, ite_not, Int.reduceNeg, Int32.reduceToInt, Nat.reduceAdd, Nat.reduceLeDiff, Nat.reduceLT, Nat.reduceEqDiff, Int.reduceAdd, Int.reduceSub, Int.reduceMul, Nat.zero_le, pk_po_ne, pk_po_eq, pk_po_ix, rI, ne_eq, d1, if_false]
    refine C74 hC hn (by omega) c1.2 h2 rfl rfl ?_ ?_
    · intro e2 v2 hr2
      obtain ⟨b2, c2⟩ := rdN_ok c1.2 hr2
      have d2 : ¬ v2 = -1 := by omega
      simp (disch := omega) only [↓x_al_0, ↓c_30, ↓x_is_1, ↓x_il_1, ↓x_c, ↓x_ne, ↓x_irz, ↓gr_75_0, ↓c_74, ↓x_is_2, ↓x_il_2, ↓x_is_3, ↓x_il_3, ↓gd_75_1, ↓gr_hA_10, ↓gr_hB_10, ↓gr_hA_11, ↓gr_hB_11, ↓st_hA_24, ↓st_hA_25, ↓st_hB_24, ↓st_hB_25, ↓n_35, ↓s_35_0, ↓s_35_12, ↓s_35_31, ↓s_35_50, ↓bk_v, ↓bk_n, ↓bk_r, ↓pv_i, ↓pv_r, ↓pv_0, ↓pv_l, wz_pk, wz_ti, wz_wz, vI_wz, wz_id, wz_0, List.length_cons, List.length_nil, ↓reduceIte, true_and, and_true, Int.reduceLE, Int.reduceLT, Int.reduceEq, not_true_eq_false, not_false_eq_true, false_or, or_false, true_or, or_true, ite_not, Int.reduceNeg, Int32.reduceToInt, Nat.reduceAdd, Nat.reduceLeDiff, Nat.reduceLT, Nat.reduceEqDiff, Int.reduceAdd, Int.reduceSub, Int.reduceMul, Nat.zero_le, pk_po_ne, pk_po_eq, pk_po_ix, rI, ne_eq, d2, if_false]
      refine C74 hC hn (by omega) c2.2 h2 (wz_id (by omega) (by omega)) rfl ?_ ?_
      · intro e3 v3 hr3
        obtain ⟨b3, c3⟩ := rdN_ok c2.2 hr3
        have d3 : ¬ v3 = -1 := by omega
        have q1 : v1 < 12 := by omega
        have q2 : 0 ≤ v1 := by omega
        have e := hK.ok (M' := po (po M 57 v1 v2) 58 v1 v3) (f' := sk S n e2) (by rw [k_claim, bnd_ok hr1, bnd_ok hr2, bnd_ok hr3]) ((hC.putz (by decide) (wz_id (by omega) (by omega))).putz (by decide) (wz_id (by omega) (by omega))) (by funext j; rw [po_ne (by simp), po_ne (by simp)]) ((FC.rfl.pw (by decide)).pw (by decide))
        simp (disch := omega) only [↓x_al_0, ↓c_30, ↓x_is_1, ↓x_il_1, ↓x_c, ↓x_ne, ↓x_irz, ↓gr_75_0, ↓c_74, ↓x_is_2, ↓x_il_2, ↓x_is_3, ↓x_il_3, ↓gd_75_1, ↓gr_hA_10, ↓gr_hB_10, ↓gr_hA_11, ↓gr_hB_11, ↓st_hA_24, ↓st_hA_25, ↓st_hB_24, ↓st_hB_25, ↓n_35, ↓s_35_0, ↓s_35_12, ↓s_35_31, ↓s_35_50, ↓bk_v, ↓bk_n, ↓bk_r, ↓pv_i, ↓pv_r, ↓pv_0, ↓pv_l, wz_pk, wz_ti, wz_wz, vI_wz, wz_id, wz_0, List.length_cons, List.length_nil, ↓reduceIte, true_and, and_true, Int.reduceLE, Int.reduceLT, Int.reduceEq, not_true_eq_false, not_false_eq_true, false_or, or_false, true_or, or_true, ite_not, Int.reduceNeg, Int32.reduceToInt, Nat.reduceAdd, Nat.reduceLeDiff, Nat.reduceLT, Nat.reduceEqDiff, Int.reduceAdd, Int.reduceSub, Int.reduceMul, Nat.zero_le, pk_po_ne, pk_po_eq, pk_po_ix, rI, ne_eq, d3, if_false, tx_o, tx_po, q1, q2]
        exact e
      · intro k x hk hr M' hM
        have e := hK.no hk (by rw [k_claim, bnd_ok hr1, bnd_ok hr2, bnd_no hk hr]) hM
        simp (disch := omega) only [↓x_al_0, ↓c_30, ↓x_is_1, ↓x_il_1, ↓x_c, ↓x_ne, ↓x_irz, ↓gr_75_0, ↓c_74, ↓x_is_2, ↓x_il_2, ↓x_is_3, ↓x_il_3, ↓gd_75_1, ↓gr_hA_10, ↓gr_hB_10, ↓gr_hA_11, ↓gr_hB_11, ↓st_hA_24, ↓st_hA_25, ↓st_hB_24, ↓st_hB_25, ↓n_35, ↓s_35_0, ↓s_35_12, ↓s_35_31, ↓s_35_50, ↓bk_v, ↓bk_n, ↓bk_r, ↓pv_i, ↓pv_r, ↓pv_0, ↓pv_l, wz_pk, wz_ti, wz_wz, vI_wz, wz_id, wz_0, List.length_cons, List.length_nil, ↓reduceIte, true_and, and_true, Int.reduceLE, Int.reduceLT, Int.reduceEq, not_true_eq_false, not_false_eq_true, false_or, or_false, true_or, or_true, ite_not, Int.reduceNeg, Int32.reduceToInt, Nat.reduceAdd, Nat.reduceLeDiff, Nat.reduceLT, Nat.reduceEqDiff, Int.reduceAdd, Int.reduceSub, Int.reduceMul, Nat.zero_le, pk_po_ne, pk_po_eq, pk_po_ix, rI, ne_eq]
        exact e
    · intro k x hk hr M' hM
      have e := hK.no hk (by rw [k_claim, bnd_ok hr1, bnd_no hk hr]) hM
      simp (disch := omega) only [↓x_al_0, ↓c_30, ↓x_is_1, ↓x_il_1, ↓x_c, ↓x_ne, ↓x_irz, ↓gr_75_0, ↓c_74, ↓x_is_2, ↓x_il_2, ↓x_is_3, ↓x_il_3, ↓gd_75_1, ↓gr_hA_10, ↓gr_hB_10, ↓gr_hA_11, ↓gr_hB_11, ↓st_hA_24, ↓st_hA_25, ↓st_hB_24, ↓st_hB_25, ↓n_35, ↓s_35_0, ↓s_35_12, ↓s_35_31, ↓s_35_50, ↓bk_v, ↓bk_n, ↓bk_r, ↓pv_i, ↓pv_r, ↓pv_0, ↓pv_l, wz_pk, wz_ti, wz_wz, vI_wz, wz_id, wz_0, List.length_cons, List.length_nil, ↓reduceIte, true_and, and_true, Int.reduceLE, Int.reduceLT, Int.reduceEq, not_true_eq_false, not_false_eq_true, false_or, or_false, true_or, or_true, ite_not, Int.reduceNeg, Int32.reduceToInt, Nat.reduceAdd, Nat.reduceLeDiff, Nat.reduceLT, Nat.reduceEqDiff, Int.reduceAdd, Int.reduceSub, Int.reduceMul, Nat.zero_le, pk_po_ne, pk_po_eq, pk_po_ix, rI, ne_eq]
      exact e
  · intro k x hk hr M' hM
    have e := hK.no hk (by rw [k_claim, bnd_no hk hr]) hM
    simp (disch := omega) only [↓x_al_0, ↓c_30, ↓x_is_1, ↓x_il_1, ↓x_c, ↓x_ne, ↓x_irz, ↓gr_75_0, ↓c_74, ↓x_is_2, ↓x_il_2, ↓x_is_3, ↓x_il_3, ↓gd_75_1, ↓gr_hA_10, ↓gr_hB_10, ↓gr_hA_11, ↓gr_hB_11, ↓st_hA_24, ↓st_hA_25, ↓st_hB_24, ↓st_hB_25, ↓n_35, ↓s_35_0, ↓s_35_12, ↓s_35_31, ↓s_35_50, ↓bk_v, ↓bk_n, ↓bk_r, ↓pv_i, ↓pv_r, ↓pv_0, ↓pv_l, wz_pk, wz_ti, wz_wz, vI_wz, wz_id, wz_0, List.length_cons, List.length_nil, ↓reduceIte, true_and, and_true, Int.reduceLE, Int.reduceLT, Int.reduceEq, not_true_eq_false, not_false_eq_true, false_or, or_false, true_or, or_true, ite_not, Int.reduceNeg, Int32.reduceToInt, Nat.reduceAdd, Nat.reduceLeDiff, Nat.reduceLT, Nat.reduceEqDiff, Int.reduceAdd, Int.reduceSub, Int.reduceMul, Nat.zero_le, pk_po_ne, pk_po_eq, pk_po_ix, rI, ne_eq]
    exact e
theorem C36 (hC : RC S M) (hn : pk M 2 1 = n) (h0 : 0 ≤ p) (h1 : p ≤ n) (h2 : n ≤ 600) (hp : 0 ≤ S 33 0 ∧ S 33 0 ≤ 4) (hd : 0 ≤ S 33 2 ∧ S 33 2 ≤ 5) (hK : KQ X s dl t M Q (k_debt S n p)) : CL 36 [.ref 75] (mkh X s (hB s) dl t (txm M p f)) Q := by
  simp only [↓x_al_0, ↓c_29, ↓x_is_1, ↓x_il_1, ↓x_c, ↓x_ne, ↓x_irz, ↓gr_75_0, ↓c_74, ↓x_is_2, ↓x_il_2, ↓x_is_3, ↓x_il_3, ↓gd_75_1, ↓gr_hA_12, ↓gr_hB_12, ↓gi_hA_2, ↓gi_hB_2, ↓gr_hA_13, ↓gr_hB_13, ↓gr_hA_14, ↓gr_hB_14, ↓x_dup_i, ↓x_dup_r, ↓x_iadd, ↓pi_hA_2, ↓pi_hB_2, ↓st_hA_26, ↓st_hA_27, ↓st_hA_28, ↓st_hB_26, ↓st_hB_27, ↓st_hB_28, ↓n_36, ↓s_36_0, ↓s_36_12, ↓s_36_31, ↓s_36_50, ↓bk_v, ↓bk_n, ↓bk_r, ↓pv_i, ↓pv_r, ↓pv_0, ↓pv_l, wz_pk, wz_ti, wz_wz, vI_wz, wz_id, wz_0, List.length_cons, List.length_nil, ↓reduceIte, true_and, and_true, Int.reduceLE, Int.reduceLT, Int.reduceEq, not_true_eq_false, not_false_eq_true, false_or, or_false, true_or, or_true, ite_not, Int.reduceNeg, Int32.reduceToInt, Nat.reduceAdd, Nat.reduceLeDiff, Nat.reduceLT, Nat.reduceEqDiff, Int.reduceAdd, Int.reduceSub, Int.reduceMul, Nat.zero_le, pk_po_ne, pk_po_eq, pk_po_ix, rI, ne_eq]
  refine C29 hC hn h0 h1 h2 hp ?_ ?_
  · intro e1 v1 hr1
    obtain ⟨b1, c1⟩ := rdN_ok h1 hr1
    have d1 : ¬ v1 = -1 := by omega
    simp (disch := omega) only [↓x_al_0, ↓c_29, ↓x_is_1, ↓x_il_1, ↓x_c, ↓x_ne, ↓x_irz, ↓gr_75_0, ↓c_74, ↓x_is_2, ↓x_il_2, ↓x_is_3, ↓x_il_3, ↓gd_75_1, ↓gr_hA_12, ↓gr_hB_12, ↓gi_hA_2, ↓gi_hB_2, ↓gr_hA_13, ↓gr_hB_13, ↓gr_hA_14, ↓gr_hB_14, ↓x_dup_i, ↓x_dup_r, ↓x_iadd, ↓pi_hA_2, ↓pi_hB_2, ↓st_hA_26, ↓st_hA_27, ↓st_hA_28, ↓st_hB_26, ↓st_hB_27, ↓st_hB_28, ↓n_36, ↓s_36_0, ↓s_36_12, ↓s_36_31, ↓s_36_50, ↓bk_v, ↓bk_n, ↓bk_r, ↓pv_i, ↓pv_r, ↓pv_0, ↓pv_l, wz_pk, wz_ti, wz_wz, vI_wz, wz_id, wz_0, List.length_cons, List.length_nil, ↓reduceIte, true_and, and_true, Int.reduceLE, Int.reduceLT, Int.reduceEq, not_true_eq_false, not_false_eq_true, false_or, or_false, true_or, or_true, ite_not, Int.reduceNeg, Int32.reduceToInt, Nat.reduceAdd, Nat.reduceLeDiff, Nat.reduceLT, Nat.reduceEqDiff, Int.reduceAdd, Int.reduceSub, Int.reduceMul, Nat.zero_le, pk_po_ne, pk_po_eq, pk_po_ix, rI, ne_eq, d1, if_false]
    refine C74 hC hn (by omega) c1.2 h2 rfl rfl ?_ ?_
    · intro e2 v2 hr2
      obtain ⟨b2, c2⟩ := rdN_ok c1.2 hr2
      have d2 : ¬ v2 = -1 := by omega
      simp (disch := omega) only [↓x_al_0, ↓c_29, ↓x_is_1, ↓x_il_1, ↓x_c, ↓x_ne, ↓x_irz, ↓gr_75_0, ↓c_74, ↓x_is_2, ↓x_il_2, ↓x_is_3, ↓x_il_3, ↓gd_75_1, ↓gr_hA_12, ↓gr_hB_12, ↓gi_hA_2, ↓gi_hB_2, ↓gr_hA_13, ↓gr_hB_13, ↓gr_hA_14, ↓gr_hB_14, ↓x_dup_i, ↓x_dup_r, ↓x_iadd, ↓pi_hA_2, ↓pi_hB_2, ↓st_hA_26, ↓st_hA_27, ↓st_hA_28, ↓st_hB_26, ↓st_hB_27, ↓st_hB_28, ↓n_36, ↓s_36_0, ↓s_36_12, ↓s_36_31, ↓s_36_50, ↓bk_v, ↓bk_n, ↓bk_r, ↓pv_i, ↓pv_r, ↓pv_0, ↓pv_l, wz_pk, wz_ti, wz_wz, vI_wz, wz_id, wz_0, List.length_cons, List.length_nil, ↓reduceIte, true_and, and_true, Int.reduceLE, Int.reduceLT, Int.reduceEq, not_true_eq_false, not_false_eq_true, false_or, or_false, true_or, or_true, ite_not, Int.reduceNeg, Int32.reduceToInt, Nat.reduceAdd, Nat.reduceLeDiff, Nat.reduceLT, Nat.reduceEqDiff, Int.reduceAdd, Int.reduceSub, Int.reduceMul, Nat.zero_le, pk_po_ne, pk_po_eq, pk_po_ix, rI, ne_eq, d2, if_false]
      refine C74 hC hn (by omega) c2.2 h2 rfl rfl ?_ ?_
      · intro e3 v3 hr3
        obtain ⟨b3, c3⟩ := rdN_ok c2.2 hr3
        have d3 : ¬ v3 = -1 := by omega
        have q1 : S 33 2 < 6 := by omega
        have q2 : 0 ≤ S 33 2 := by omega
        have r0 := hC.at 33 rfl 2
        have e := hK.ok (M' := po (po (po (po M 59 (S 33 2) v1) 60 (S 33 2) v2) 61 (S 33 2) v3) 33 2 (S 33 2 + 1)) (f' := sk S n e2) (by rw [k_debt, bnd_ok hr1, bnd_ok hr2, bnd_ok hr3]) ((((hC.putz (by decide) (wz_id (by omega) (by omega))).putz (by decide) (wz_id (by omega) (by omega))).putz (by decide) (wz_id (by omega) (by omega))).putz (by decide) (wz_id (by omega) (by omega))) (by funext j; rw [po_ne (by simp), po_ne (by simp), po_ne (by simp), po_ne (by simp)]) ((((FC.rfl.pw (by decide)).pw (by decide)).pw (by decide)).pw (by decide))
        simp (disch := omega) only [↓x_al_0, ↓c_29, ↓x_is_1, ↓x_il_1, ↓x_c, ↓x_ne, ↓x_irz, ↓gr_75_0, ↓c_74, ↓x_is_2, ↓x_il_2, ↓x_is_3, ↓x_il_3, ↓gd_75_1, ↓gr_hA_12, ↓gr_hB_12, ↓gi_hA_2, ↓gi_hB_2, ↓gr_hA_13, ↓gr_hB_13, ↓gr_hA_14, ↓gr_hB_14, ↓x_dup_i, ↓x_dup_r, ↓x_iadd, ↓pi_hA_2, ↓pi_hB_2, ↓st_hA_26, ↓st_hA_27, ↓st_hA_28, ↓st_hB_26, ↓st_hB_27, ↓st_hB_28, ↓n_36, ↓s_36_0, ↓s_36_12, ↓s_36_31, ↓s_36_50, ↓bk_v, ↓bk_n, ↓bk_r, ↓pv_i, ↓pv_r, ↓pv_0, ↓pv_l, wz_pk, wz_ti, wz_wz, vI_wz, wz_id, wz_0, List.length_cons, List.length_nil, ↓reduceIte, true_and, and_true, Int.reduceLE, Int.reduceLT, Int.reduceEq, not_true_eq_false, not_false_eq_true, false_or, or_false, true_or, or_true, ite_not, Int.reduceNeg, Int32.reduceToInt, Nat.reduceAdd, Nat.reduceLeDiff, Nat.reduceLT, Nat.reduceEqDiff, Int.reduceAdd, Int.reduceSub, Int.reduceMul, Nat.zero_le, pk_po_ne, pk_po_eq, pk_po_ix, rI, ne_eq, d3, if_false, tx_o, tx_po, q1, q2, r0]
        exact e
      · intro k x hk hr M' hM
        have e := hK.no hk (by rw [k_debt, bnd_ok hr1, bnd_ok hr2, bnd_no hk hr]) hM
        simp (disch := omega) only [↓x_al_0, ↓c_29, ↓x_is_1, ↓x_il_1, ↓x_c, ↓x_ne, ↓x_irz, ↓gr_75_0, ↓c_74, ↓x_is_2, ↓x_il_2, ↓x_is_3, ↓x_il_3, ↓gd_75_1, ↓gr_hA_12, ↓gr_hB_12, ↓gi_hA_2, ↓gi_hB_2, ↓gr_hA_13, ↓gr_hB_13, ↓gr_hA_14, ↓gr_hB_14, ↓x_dup_i, ↓x_dup_r, ↓x_iadd, ↓pi_hA_2, ↓pi_hB_2, ↓st_hA_26, ↓st_hA_27, ↓st_hA_28, ↓st_hB_26, ↓st_hB_27, ↓st_hB_28, ↓n_36, ↓s_36_0, ↓s_36_12, ↓s_36_31, ↓s_36_50, ↓bk_v, ↓bk_n, ↓bk_r, ↓pv_i, ↓pv_r, ↓pv_0, ↓pv_l, wz_pk, wz_ti, wz_wz, vI_wz, wz_id, wz_0, List.length_cons, List.length_nil, ↓reduceIte, true_and, and_true, Int.reduceLE, Int.reduceLT, Int.reduceEq, not_true_eq_false, not_false_eq_true, false_or, or_false, true_or, or_true, ite_not, Int.reduceNeg, Int32.reduceToInt, Nat.reduceAdd, Nat.reduceLeDiff, Nat.reduceLT, Nat.reduceEqDiff, Int.reduceAdd, Int.reduceSub, Int.reduceMul, Nat.zero_le, pk_po_ne, pk_po_eq, pk_po_ix, rI, ne_eq]
        exact e
    · intro k x hk hr M' hM
      have e := hK.no hk (by rw [k_debt, bnd_ok hr1, bnd_no hk hr]) hM
      simp (disch := omega) only [↓x_al_0, ↓c_29, ↓x_is_1, ↓x_il_1, ↓x_c, ↓x_ne, ↓x_irz, ↓gr_75_0, ↓c_74, ↓x_is_2, ↓x_il_2, ↓x_is_3, ↓x_il_3, ↓gd_75_1, ↓gr_hA_12, ↓gr_hB_12, ↓gi_hA_2, ↓gi_hB_2, ↓gr_hA_13, ↓gr_hB_13, ↓gr_hA_14, ↓gr_hB_14, ↓x_dup_i, ↓x_dup_r, ↓x_iadd, ↓pi_hA_2, ↓pi_hB_2, ↓st_hA_26, ↓st_hA_27, ↓st_hA_28, ↓st_hB_26, ↓st_hB_27, ↓st_hB_28, ↓n_36, ↓s_36_0, ↓s_36_12, ↓s_36_31, ↓s_36_50, ↓bk_v, ↓bk_n, ↓bk_r, ↓pv_i, ↓pv_r, ↓pv_0, ↓pv_l, wz_pk, wz_ti, wz_wz, vI_wz, wz_id, wz_0, List.length_cons, List.length_nil, ↓reduceIte, true_and, and_true, Int.reduceLE, Int.reduceLT, Int.reduceEq, not_true_eq_false, not_false_eq_true, false_or, or_false, true_or, or_true, ite_not, Int.reduceNeg, Int32.reduceToInt, Nat.reduceAdd, Nat.reduceLeDiff, Nat.reduceLT, Nat.reduceEqDiff, Int.reduceAdd, Int.reduceSub, Int.reduceMul, Nat.zero_le, pk_po_ne, pk_po_eq, pk_po_ix, rI, ne_eq]
      exact e
  · intro k x hk hr M' hM
    have e := hK.no hk (by rw [k_debt, bnd_no hk hr]) hM
    simp (disch := omega) only [↓x_al_0, ↓c_29, ↓x_is_1, ↓x_il_1, ↓x_c, ↓x_ne, ↓x_irz, ↓gr_75_0, ↓c_74, ↓x_is_2, ↓x_il_2, ↓x_is_3, ↓x_il_3, ↓gd_75_1, ↓gr_hA_12, ↓gr_hB_12, ↓gi_hA_2, ↓gi_hB_2, ↓gr_hA_13, ↓gr_hB_13, ↓gr_hA_14, ↓gr_hB_14, ↓x_dup_i, ↓x_dup_r, ↓x_iadd, ↓pi_hA_2, ↓pi_hB_2, ↓st_hA_26, ↓st_hA_27, ↓st_hA_28, ↓st_hB_26, ↓st_hB_27, ↓st_hB_28, ↓n_36, ↓s_36_0, ↓s_36_12, ↓s_36_31, ↓s_36_50, ↓bk_v, ↓bk_n, ↓bk_r, ↓pv_i, ↓pv_r, ↓pv_0, ↓pv_l, wz_pk, wz_ti, wz_wz, vI_wz, wz_id, wz_0, List.length_cons, List.length_nil, ↓reduceIte, true_and, and_true, Int.reduceLE, Int.reduceLT, Int.reduceEq, not_true_eq_false, not_false_eq_true, false_or, or_false, true_or, or_true, ite_not, Int.reduceNeg, Int32.reduceToInt, Nat.reduceAdd, Nat.reduceLeDiff, Nat.reduceLT, Nat.reduceEqDiff, Int.reduceAdd, Int.reduceSub, Int.reduceMul, Nat.zero_le, pk_po_ne, pk_po_eq, pk_po_ix, rI, ne_eq]
    exact e
theorem C37 (hC : RC S M) (hn : pk M 2 1 = n) (h0 : 0 ≤ p) (h1 : p ≤ n) (h2 : n ≤ 600) (hp : 0 ≤ S 33 0 ∧ S 33 0 ≤ 4) (hK : KQ X s dl t M Q (k_ill S n p)) : CL 37 [.ref 75] (mkh X s (hB s) dl t (txm M p f)) Q := by
  simp only [↓x_al_0, ↓c_29, ↓x_is_1, ↓x_il_1, ↓x_c, ↓x_ne, ↓x_irz, ↓gr_75_0, ↓c_74, ↓x_is_2, ↓x_il_2, ↓gd_75_1, ↓gr_hA_5, ↓gr_hB_5, ↓st_hA_7, ↓st_hB_7, ↓n_37, ↓s_37_0, ↓s_37_12, ↓s_37_31, ↓bk_v, ↓bk_n, ↓bk_r, ↓pv_i, ↓pv_r, ↓pv_0, ↓pv_l, wz_pk, wz_ti, wz_wz, vI_wz, wz_id, wz_0, List.length_cons, List.length_nil, ↓reduceIte, true_and, and_true, Int.reduceLE, Int.reduceLT, Int.reduceEq, not_true_eq_false, not_false_eq_true, false_or, or_false, true_or, or_true, ite_not, Int.reduceNeg, Int32.reduceToInt, Nat.reduceAdd, Nat.reduceLeDiff, Nat.reduceLT, Nat.reduceEqDiff, Int.reduceAdd, Int.reduceSub, Int.reduceMul, Nat.zero_le, pk_po_ne, pk_po_eq, pk_po_ix, rI, ne_eq]
  refine C29 hC hn h0 h1 h2 hp ?_ ?_
  · intro e1 v1 hr1
    obtain ⟨b1, c1⟩ := rdN_ok h1 hr1
    have d1 : ¬ v1 = -1 := by omega
    simp (disch := omega) only [↓x_al_0, ↓c_29, ↓x_is_1, ↓x_il_1, ↓x_c, ↓x_ne, ↓x_irz, ↓gr_75_0, ↓c_74, ↓x_is_2, ↓x_il_2, ↓gd_75_1, ↓gr_hA_5, ↓gr_hB_5, ↓st_hA_7, ↓st_hB_7, ↓n_37, ↓s_37_0, ↓s_37_12, ↓s_37_31, ↓bk_v, ↓bk_n, ↓bk_r, ↓pv_i, ↓pv_r, ↓pv_0, ↓pv_l, wz_pk, wz_ti, wz_wz, vI_wz, wz_id, wz_0, List.length_cons, List.length_nil, ↓reduceIte, true_and, and_true, Int.reduceLE, Int.reduceLT, Int.reduceEq, not_true_eq_false, not_false_eq_true, false_or, or_false, true_or, or_true, ite_not, Int.reduceNeg, Int32.reduceToInt, Nat.reduceAdd, Nat.reduceLeDiff, Nat.reduceLT, Nat.reduceEqDiff, Int.reduceAdd, Int.reduceSub, Int.reduceMul, Nat.zero_le, pk_po_ne, pk_po_eq, pk_po_ix, rI, ne_eq, d1, if_false]
    refine C74 hC hn (by omega) c1.2 h2 rfl rfl ?_ ?_
    · intro e2 v2 hr2
      obtain ⟨b2, c2⟩ := rdN_ok c1.2 hr2
      have d2 : ¬ v2 = -1 := by omega
      have q1 : v1 < 4 := by omega
      have q2 : 0 ≤ v1 := by omega
      have e := hK.ok (M' := po M 40 v1 v2) (f' := sk S n e1) (by rw [k_ill, bnd_ok hr1, bnd_ok hr2]) (hC.putz (by decide) (wz_id (by omega) (by omega))) (by funext j; rw [po_ne (by simp)]) (FC.rfl.pw (by decide))
      simp (disch := omega) only [↓x_al_0, ↓c_29, ↓x_is_1, ↓x_il_1, ↓x_c, ↓x_ne, ↓x_irz, ↓gr_75_0, ↓c_74, ↓x_is_2, ↓x_il_2, ↓gd_75_1, ↓gr_hA_5, ↓gr_hB_5, ↓st_hA_7, ↓st_hB_7, ↓n_37, ↓s_37_0, ↓s_37_12, ↓s_37_31, ↓bk_v, ↓bk_n, ↓bk_r, ↓pv_i, ↓pv_r, ↓pv_0, ↓pv_l, wz_pk, wz_ti, wz_wz, vI_wz, wz_id, wz_0, List.length_cons, List.length_nil, ↓reduceIte, true_and, and_true, Int.reduceLE, Int.reduceLT, Int.reduceEq, not_true_eq_false, not_false_eq_true, false_or, or_false, true_or, or_true, ite_not, Int.reduceNeg, Int32.reduceToInt, Nat.reduceAdd, Nat.reduceLeDiff, Nat.reduceLT, Nat.reduceEqDiff, Int.reduceAdd, Int.reduceSub, Int.reduceMul, Nat.zero_le, pk_po_ne, pk_po_eq, pk_po_ix, rI, ne_eq, d2, if_false, tx_o, tx_po, q1, q2]
      exact e
    · intro k x hk hr M' hM
      have e := hK.no hk (by rw [k_ill, bnd_ok hr1, bnd_no hk hr]) hM
      simp (disch := omega) only [↓x_al_0, ↓c_29, ↓x_is_1, ↓x_il_1, ↓x_c, ↓x_ne, ↓x_irz, ↓gr_75_0, ↓c_74, ↓x_is_2, ↓x_il_2, ↓gd_75_1, ↓gr_hA_5, ↓gr_hB_5, ↓st_hA_7, ↓st_hB_7, ↓n_37, ↓s_37_0, ↓s_37_12, ↓s_37_31, ↓bk_v, ↓bk_n, ↓bk_r, ↓pv_i, ↓pv_r, ↓pv_0, ↓pv_l, wz_pk, wz_ti, wz_wz, vI_wz, wz_id, wz_0, List.length_cons, List.length_nil, ↓reduceIte, true_and, and_true, Int.reduceLE, Int.reduceLT, Int.reduceEq, not_true_eq_false, not_false_eq_true, false_or, or_false, true_or, or_true, ite_not, Int.reduceNeg, Int32.reduceToInt, Nat.reduceAdd, Nat.reduceLeDiff, Nat.reduceLT, Nat.reduceEqDiff, Int.reduceAdd, Int.reduceSub, Int.reduceMul, Nat.zero_le, pk_po_ne, pk_po_eq, pk_po_ix, rI, ne_eq]
      exact e
  · intro k x hk hr M' hM
    have e := hK.no hk (by rw [k_ill, bnd_no hk hr]) hM
    simp (disch := omega) only [↓x_al_0, ↓c_29, ↓x_is_1, ↓x_il_1, ↓x_c, ↓x_ne, ↓x_irz, ↓gr_75_0, ↓c_74, ↓x_is_2, ↓x_il_2, ↓gd_75_1, ↓gr_hA_5, ↓gr_hB_5, ↓st_hA_7, ↓st_hB_7, ↓n_37, ↓s_37_0, ↓s_37_12, ↓s_37_31, ↓bk_v, ↓bk_n, ↓bk_r, ↓pv_i, ↓pv_r, ↓pv_0, ↓pv_l, wz_pk, wz_ti, wz_wz, vI_wz, wz_id, wz_0, List.length_cons, List.length_nil, ↓reduceIte, true_and, and_true, Int.reduceLE, Int.reduceLT, Int.reduceEq, not_true_eq_false, not_false_eq_true, false_or, or_false, true_or, or_true, ite_not, Int.reduceNeg, Int32.reduceToInt, Nat.reduceAdd, Nat.reduceLeDiff, Nat.reduceLT, Nat.reduceEqDiff, Int.reduceAdd, Int.reduceSub, Int.reduceMul, Nat.zero_le, pk_po_ne, pk_po_eq, pk_po_ix, rI, ne_eq]
    exact e
theorem C38 (hC : RC S M) (hn : pk M 2 1 = n) (h0 : 0 ≤ p) (h1 : p ≤ n) (h2 : n ≤ 600)  (hK : KQ X s dl t M Q (k_fee S n p)) : CL 38 [.ref 75] (mkh X s (hB s) dl t (txm M p f)) Q := by
  simp only [↓x_al_0, ↓gr_75_0, ↓x_c, ↓c_74, ↓x_is_1, ↓x_il_1, ↓x_ne, ↓x_irz, ↓x_is_2, ↓x_il_2, ↓gd_75_1, ↓gr_hA_15, ↓gr_hB_15, ↓st_hA_29, ↓st_hB_29, ↓n_38, ↓s_38_0, ↓s_38_17, ↓s_38_35, ↓bk_v, ↓bk_n, ↓bk_r, ↓pv_i, ↓pv_r, ↓pv_0, ↓pv_l, wz_pk, wz_ti, wz_wz, vI_wz, wz_id, wz_0, List.length_cons, List.length_nil, ↓reduceIte, true_and, and_true, Int.reduceLE, Int.reduceLT, Int.reduceEq, not_true_eq_false, not_false_eq_true, false_or, or_false, true_or, or_true, ite_not, Int.reduceNeg, Int32.reduceToInt, Nat.reduceAdd, Nat.reduceLeDiff, Nat.reduceLT, Nat.reduceEqDiff, Int.reduceAdd, Int.reduceSub, Int.reduceMul, Nat.zero_le, pk_po_ne, pk_po_eq, pk_po_ix, rI, ne_eq]
  refine C74 hC hn h0 h1 h2 rfl rfl ?_ ?_
  · intro e1 v1 hr1
    obtain ⟨b1, c1⟩ := rdN_ok h1 hr1
    have d1 : ¬ v1 = -1 := by omega
    simp (disch := omega) only [↓x_al_0, ↓gr_75_0, ↓x_c, ↓c_74, ↓x_is_1, ↓x_il_1, ↓x_ne, ↓x_irz, ↓x_is_2, ↓x_il_2, ↓gd_75_1, ↓gr_hA_15, ↓gr_hB_15, ↓st_hA_29, ↓st_hB_29, ↓n_38, ↓s_38_0, ↓s_38_17, ↓s_38_35, ↓bk_v, ↓bk_n, ↓bk_r, ↓pv_i, ↓pv_r, ↓pv_0, ↓pv_l, wz_pk, wz_ti, wz_wz, vI_wz, wz_id, wz_0, List.length_cons, List.length_nil, ↓reduceIte, true_and, and_true, Int.reduceLE, Int.reduceLT, Int.reduceEq, not_true_eq_false, not_false_eq_true, false_or, or_false, true_or, or_true, ite_not, Int.reduceNeg, Int32.reduceToInt, Nat.reduceAdd, Nat.reduceLeDiff, Nat.reduceLT, Nat.reduceEqDiff, Int.reduceAdd, Int.reduceSub, Int.reduceMul, Nat.zero_le, pk_po_ne, pk_po_eq, pk_po_ix, rI, ne_eq, d1, if_false]
    refine C74 hC hn (by omega) c1.2 h2 rfl rfl ?_ ?_
    · intro e2 v2 hr2
      obtain ⟨b2, c2⟩ := rdN_ok c1.2 hr2
      have d2 : ¬ v2 = -1 := by omega
      have q1 : v1 < 4 := by omega
      have q2 : 0 ≤ v1 := by omega
      have e := hK.ok (M' := po M 62 v1 v2) (f' := sk S n e1) (by rw [k_fee, bnd_ok hr1, bnd_ok hr2]) (hC.putz (by decide) (wz_id (by omega) (by omega))) (by funext j; rw [po_ne (by simp)]) (FC.rfl.pw (by decide))
      simp (disch := omega) only [↓x_al_0, ↓gr_75_0, ↓x_c, ↓c_74, ↓x_is_1, ↓x_il_1, ↓x_ne, ↓x_irz, ↓x_is_2, ↓x_il_2, ↓gd_75_1, ↓gr_hA_15, ↓gr_hB_15, ↓st_hA_29, ↓st_hB_29, ↓n_38, ↓s_38_0, ↓s_38_17, ↓s_38_35, ↓bk_v, ↓bk_n, ↓bk_r, ↓pv_i, ↓pv_r, ↓pv_0, ↓pv_l, wz_pk, wz_ti, wz_wz, vI_wz, wz_id, wz_0, List.length_cons, List.length_nil, ↓reduceIte, true_and, and_true, Int.reduceLE, Int.reduceLT, Int.reduceEq, not_true_eq_false, not_false_eq_true, false_or, or_false, true_or, or_true, ite_not, Int.reduceNeg, Int32.reduceToInt, Nat.reduceAdd, Nat.reduceLeDiff, Nat.reduceLT, Nat.reduceEqDiff, Int.reduceAdd, Int.reduceSub, Int.reduceMul, Nat.zero_le, pk_po_ne, pk_po_eq, pk_po_ix, rI, ne_eq, d2, if_false, tx_o, tx_po, q1, q2]
      exact e
    · intro k x hk hr M' hM
      have e := hK.no hk (by rw [k_fee, bnd_ok hr1, bnd_no hk hr]) hM
      simp (disch := omega) only [↓x_al_0, ↓gr_75_0, ↓x_c, ↓c_74, ↓x_is_1, ↓x_il_1, ↓x_ne, ↓x_irz, ↓x_is_2, ↓x_il_2, ↓gd_75_1, ↓gr_hA_15, ↓gr_hB_15, ↓st_hA_29, ↓st_hB_29, ↓n_38, ↓s_38_0, ↓s_38_17, ↓s_38_35, ↓bk_v, ↓bk_n, ↓bk_r, ↓pv_i, ↓pv_r, ↓pv_0, ↓pv_l, wz_pk, wz_ti, wz_wz, vI_wz, wz_id, wz_0, List.length_cons, List.length_nil, ↓reduceIte, true_and, and_true, Int.reduceLE, Int.reduceLT, Int.reduceEq, not_true_eq_false, not_false_eq_true, false_or, or_false, true_or, or_true, ite_not, Int.reduceNeg, Int32.reduceToInt, Nat.reduceAdd, Nat.reduceLeDiff, Nat.reduceLT, Nat.reduceEqDiff, Int.reduceAdd, Int.reduceSub, Int.reduceMul, Nat.zero_le, pk_po_ne, pk_po_eq, pk_po_ix, rI, ne_eq]
      exact e
  · intro k x hk hr M' hM
    have e := hK.no hk (by rw [k_fee, bnd_no hk hr]) hM
    simp (disch := omega) only [↓x_al_0, ↓gr_75_0, ↓x_c, ↓c_74, ↓x_is_1, ↓x_il_1, ↓x_ne, ↓x_irz, ↓x_is_2, ↓x_il_2, ↓gd_75_1, ↓gr_hA_15, ↓gr_hB_15, ↓st_hA_29, ↓st_hB_29, ↓n_38, ↓s_38_0, ↓s_38_17, ↓s_38_35, ↓bk_v, ↓bk_n, ↓bk_r, ↓pv_i, ↓pv_r, ↓pv_0, ↓pv_l, wz_pk, wz_ti, wz_wz, vI_wz, wz_id, wz_0, List.length_cons, List.length_nil, ↓reduceIte, true_and, and_true, Int.reduceLE, Int.reduceLT, Int.reduceEq, not_true_eq_false, not_false_eq_true, false_or, or_false, true_or, or_true, ite_not, Int.reduceNeg, Int32.reduceToInt, Nat.reduceAdd, Nat.reduceLeDiff, Nat.reduceLT, Nat.reduceEqDiff, Int.reduceAdd, Int.reduceSub, Int.reduceMul, Nat.zero_le, pk_po_ne, pk_po_eq, pk_po_ix, rI, ne_eq]
    exact e
theorem C33 (hC : RC S M) (hn : pk M 2 1 = n) (h0 : 0 ≤ p) (h1 : p ≤ n) (h2 : n ≤ 600) (hp : 0 ≤ S 33 0 ∧ S 33 0 ≤ 4) (hg : 0 ≤ S 33 1 ∧ S 33 1 ≤ 11) (hK : KQ X s dl t M Q (k_good S n p)) : CL 33 [.ref 75] (mkh X s (hB s) dl t (txm M p f)) Q := by
  simp only [↓x_al_0, ↓c_29, ↓x_is_1, ↓x_il_1, ↓x_c, ↓x_ne, ↓x_irz, ↓gr_75_0, ↓c_74, ↓x_is_2, ↓x_il_2, ↓x_is_3, ↓x_il_3, ↓gd_75_1, ↓gi_hA_1, ↓gi_hB_1, ↓x_is_4, ↓gr_hA_6, ↓gr_hB_6, ↓x_il_4, ↓gr_hA_7, ↓gr_hB_7, ↓gr_hA_8, ↓gr_hB_8, ↓gr_hA_9, ↓gr_hB_9, ↓c_201, ↓x_dup_i, ↓x_dup_r, ↓x_iadd, ↓pi_hA_1, ↓pi_hB_1, ↓st_hA_10, ↓st_hA_11, ↓ar_hA_11, ↓st_hA_8, ↓st_hA_9, ↓st_hB_10, ↓st_hB_11, ↓ar_hB_11, ↓st_hB_8, ↓st_hB_9, ↓n_33, ↓s_33_0, ↓s_33_12, ↓s_33_31, ↓s_33_48, ↓bk_v, ↓bk_n, ↓bk_r, ↓pv_i, ↓pv_r, ↓pv_0, ↓pv_l, wz_pk, wz_ti, wz_wz, vI_wz, wz_id, wz_0, List.length_cons, List.length_nil, ↓reduceIte, true_and, and_true, Int.reduceLE, Int.reduceLT, Int.reduceEq, not_true_eq_false, not_false_eq_true, false_or, or_false, true_or, or_true, ite_not, Int.reduceNeg, Int32.reduceToInt, Nat.reduceAdd, Nat.reduceLeDiff, Nat.reduceLT, Nat.reduceEqDiff, Int.reduceAdd, Int.reduceSub, Int.reduceMul, Nat.zero_le, pk_po_ne, pk_po_eq, pk_po_ix, rI, ne_eq]
  refine C29 hC hn h0 h1 h2 hp ?_ ?_
  · intro e1 v1 hr1
    obtain ⟨b1, c1⟩ := rdN_ok h1 hr1
    have d1 : ¬ v1 = -1 := by omega
    simp (disch := omega) only [↓x_al_0, ↓c_29, ↓x_is_1, ↓x_il_1, ↓x_c, ↓x_ne, ↓x_irz, ↓gr_75_0, ↓c_74, ↓x_is_2, ↓x_il_2, ↓x_is_3, ↓x_il_3, ↓gd_75_1, ↓gi_hA_1, ↓gi_hB_1, ↓x_is_4, ↓gr_hA_6, ↓gr_hB_6, ↓x_il_4, ↓gr_hA_7, ↓gr_hB_7, ↓gr_hA_8, ↓gr_hB_8, ↓gr_hA_9, ↓gr_hB_9, ↓c_201, ↓x_dup_i, ↓x_dup_r, ↓x_iadd, ↓pi_hA_1, ↓pi_hB_1, ↓st_hA_10, ↓st_hA_11, ↓ar_hA_11, ↓st_hA_8, ↓st_hA_9, ↓st_hB_10, ↓st_hB_11, ↓ar_hB_11, ↓st_hB_8, ↓st_hB_9, ↓n_33, ↓s_33_0, ↓s_33_12, ↓s_33_31, ↓s_33_48, ↓bk_v, ↓bk_n, ↓bk_r, ↓pv_i, ↓pv_r, ↓pv_0, ↓pv_l, wz_pk, wz_ti, wz_wz, vI_wz, wz_id, wz_0, List.length_cons, List.length_nil, ↓reduceIte, true_and, and_true, Int.reduceLE, Int.reduceLT, Int.reduceEq, not_true_eq_false, not_false_eq_true, false_or, or_false, true_or, or_true, ite_not, Int.reduceNeg, Int32.reduceToInt, Nat.reduceAdd, Nat.reduceLeDiff, Nat.reduceLT, Nat.reduceEqDiff, Int.reduceAdd, Int.reduceSub, Int.reduceMul, Nat.zero_le, pk_po_ne, pk_po_eq, pk_po_ix, rI, ne_eq, d1, if_false]
    refine C74 hC hn (by omega) c1.2 h2 rfl rfl ?_ ?_
    · intro e2 v2 hr2
      obtain ⟨b2, c2⟩ := rdN_ok c1.2 hr2
      have d2 : ¬ v2 = -1 := by omega
      simp (disch := omega) only [↓x_al_0, ↓c_29, ↓x_is_1, ↓x_il_1, ↓x_c, ↓x_ne, ↓x_irz, ↓gr_75_0, ↓c_74, ↓x_is_2, ↓x_il_2, ↓x_is_3, ↓x_il_3, ↓gd_75_1, ↓gi_hA_1, ↓gi_hB_1, ↓x_is_4, ↓gr_hA_6, ↓gr_hB_6, ↓x_il_4, ↓gr_hA_7, ↓gr_hB_7, ↓gr_hA_8, ↓gr_hB_8, ↓gr_hA_9, ↓gr_hB_9, ↓c_201, ↓x_dup_i, ↓x_dup_r, ↓x_iadd, ↓pi_hA_1, ↓pi_hB_1, ↓st_hA_10, ↓st_hA_11, ↓ar_hA_11, ↓st_hA_8, ↓st_hA_9, ↓st_hB_10, ↓st_hB_11, ↓ar_hB_11, ↓st_hB_8, ↓st_hB_9, ↓n_33, ↓s_33_0, ↓s_33_12, ↓s_33_31, ↓s_33_48, ↓bk_v, ↓bk_n, ↓bk_r, ↓pv_i, ↓pv_r, ↓pv_0, ↓pv_l, wz_pk, wz_ti, wz_wz, vI_wz, wz_id, wz_0, List.length_cons, List.length_nil, ↓reduceIte, true_and, and_true, Int.reduceLE, Int.reduceLT, Int.reduceEq, not_true_eq_false, not_false_eq_true, false_or, or_false, true_or, or_true, ite_not, Int.reduceNeg, Int32.reduceToInt, Nat.reduceAdd, Nat.reduceLeDiff, Nat.reduceLT, Nat.reduceEqDiff, Int.reduceAdd, Int.reduceSub, Int.reduceMul, Nat.zero_le, pk_po_ne, pk_po_eq, pk_po_ix, rI, ne_eq, d2, if_false]
      refine C74 hC hn (by omega) c2.2 h2 rfl rfl ?_ ?_
      · intro e3 v3 hr3
        obtain ⟨b3, c3⟩ := rdN_ok c2.2 hr3
        have d3 : ¬ v3 = -1 := by omega
        have q1 : S 33 1 < 12 := by omega
        have q2 : 0 ≤ S 33 1 := by omega
        have q3 : v1 < 4 := by omega
        have q4 : 0 ≤ v1 := by omega
        have r0 := hC.at 33 rfl 1
        have e := hK.ok (M' := po (po (flm (po (po (po M 41 (S 33 1) v1) 42 (S 33 1) v2) 43 (S 33 1) v3) 44 (4 * S 33 1) 4 0) 44 (4 * S 33 1 + v1) 12) 33 1 (S 33 1 + 1)) (f' := sk S n e2) (by rw [k_good, bnd_ok hr1, bnd_ok hr2, bnd_ok hr3]) ((((((hC.putz (by decide) (wz_id (by omega) (by omega))).putz (by decide) (wz_id (by omega) (by omega))).putz (by decide) (wz_id (by omega) (by omega))).fil (by decide) rfl).putz (by decide) rfl).putz (by decide) (wz_id (by omega) (by omega))) (by funext j; rw [po_ne (by simp), po_ne (by simp)]; unfold flm; rw [if_neg (by simp), po_ne (by simp), po_ne (by simp), po_ne (by simp)]) ((((((FC.rfl.pw (by decide)).pw (by decide)).pw (by decide)).fil (by decide)).pw (by decide)).pw (by decide))
        simp (disch := omega) only [↓x_al_0, ↓c_29, ↓x_is_1, ↓x_il_1, ↓x_c, ↓x_ne, ↓x_irz, ↓gr_75_0, ↓c_74, ↓x_is_2, ↓x_il_2, ↓x_is_3, ↓x_il_3, ↓gd_75_1, ↓gi_hA_1, ↓gi_hB_1, ↓x_is_4, ↓gr_hA_6, ↓gr_hB_6, ↓x_il_4, ↓gr_hA_7, ↓gr_hB_7, ↓gr_hA_8, ↓gr_hB_8, ↓gr_hA_9, ↓gr_hB_9, ↓c_201, ↓x_dup_i, ↓x_dup_r, ↓x_iadd, ↓pi_hA_1, ↓pi_hB_1, ↓st_hA_10, ↓st_hA_11, ↓ar_hA_11, ↓st_hA_8, ↓st_hA_9, ↓st_hB_10, ↓st_hB_11, ↓ar_hB_11, ↓st_hB_8, ↓st_hB_9, ↓n_33, ↓s_33_0, ↓s_33_12, ↓s_33_31, ↓s_33_48, ↓bk_v, ↓bk_n, ↓bk_r, ↓pv_i, ↓pv_r, ↓pv_0, ↓pv_l, wz_pk, wz_ti, wz_wz, vI_wz, wz_id, wz_0, List.length_cons, List.length_nil, ↓reduceIte, true_and, and_true, Int.reduceLE, Int.reduceLT, Int.reduceEq, not_true_eq_false, not_false_eq_true, false_or, or_false, true_or, or_true, ite_not, Int.reduceNeg, Int32.reduceToInt, Nat.reduceAdd, Nat.reduceLeDiff, Nat.reduceLT, Nat.reduceEqDiff, Int.reduceAdd, Int.reduceSub, Int.reduceMul, Nat.zero_le, pk_po_ne, pk_po_eq, pk_po_ix, rI, ne_eq, d3, if_false, tx_o, tx_po, q1, q2, q3, q4, r0]
        rw [C201 (n := 4) (d := 44) (f := 4 * (cl (S 33 1) 12).toNat) lr_hB_11.1 lr_hB_11.2 (by decide)]
        have ec : ((4 * (cl (S 33 1) 12).toNat : Nat) : Int) = 4 * S 33 1 := by rw [cl_id (by omega) (by omega) (by decide)]; omega
        rw [ec, show ((4 : Nat) : Int) = 4 from rfl, tx_fl (by decide)]
        have r2 : pk (flm (po (po (po M 41 (S 33 1) v1) 42 (S 33 1) v2) 43 (S 33 1) v3) 44 (4 * S 33 1) 4 0) 33 1 = S 33 1 := by rw [pk_flm, if_neg (by simp), pk_po_ne (by decide), pk_po_ne (by decide), pk_po_ne (by decide)]; exact r0
        simp (disch := omega) only [↓x_al_0, ↓c_29, ↓x_is_1, ↓x_il_1, ↓x_c, ↓x_ne, ↓x_irz, ↓gr_75_0, ↓c_74, ↓x_is_2, ↓x_il_2, ↓x_is_3, ↓x_il_3, ↓gd_75_1, ↓gi_hA_1, ↓gi_hB_1, ↓x_is_4, ↓gr_hA_6, ↓gr_hB_6, ↓x_il_4, ↓gr_hA_7, ↓gr_hB_7, ↓gr_hA_8, ↓gr_hB_8, ↓gr_hA_9, ↓gr_hB_9, ↓c_201, ↓x_dup_i, ↓x_dup_r, ↓x_iadd, ↓pi_hA_1, ↓pi_hB_1, ↓st_hA_10, ↓st_hA_11, ↓ar_hA_11, ↓st_hA_8, ↓st_hA_9, ↓st_hB_10, ↓st_hB_11, ↓ar_hB_11, ↓st_hB_8, ↓st_hB_9, ↓n_33, ↓s_33_0, ↓s_33_12, ↓s_33_31, ↓s_33_48, ↓bk_v, ↓bk_n, ↓bk_r, ↓pv_i, ↓pv_r, ↓pv_0, ↓pv_l, wz_pk, wz_ti, wz_wz, vI_wz, wz_id, wz_0, List.length_cons, List.length_nil, ↓reduceIte, true_and, and_true, Int.reduceLE, Int.reduceLT, Int.reduceEq, not_true_eq_false, not_false_eq_true, false_or, or_false, true_or, or_true, ite_not, Int.reduceNeg, Int32.reduceToInt, Nat.reduceAdd, Nat.reduceLeDiff, Nat.reduceLT, Nat.reduceEqDiff, Int.reduceAdd, Int.reduceSub, Int.reduceMul, Nat.zero_le, pk_po_ne, pk_po_eq, pk_po_ix, rI, ne_eq, tx_o, tx_po, r2, q1, q2, q3, q4, cl_id]
        exact e
      · intro k x hk hr M' hM
        have e := hK.no hk (by rw [k_good, bnd_ok hr1, bnd_ok hr2, bnd_no hk hr]) hM
        simp (disch := omega) only [↓x_al_0, ↓c_29, ↓x_is_1, ↓x_il_1, ↓x_c, ↓x_ne, ↓x_irz, ↓gr_75_0, ↓c_74, ↓x_is_2, ↓x_il_2, ↓x_is_3, ↓x_il_3, ↓gd_75_1, ↓gi_hA_1, ↓gi_hB_1, ↓x_is_4, ↓gr_hA_6, ↓gr_hB_6, ↓x_il_4, ↓gr_hA_7, ↓gr_hB_7, ↓gr_hA_8, ↓gr_hB_8, ↓gr_hA_9, ↓gr_hB_9, ↓c_201, ↓x_dup_i, ↓x_dup_r, ↓x_iadd, ↓pi_hA_1, ↓pi_hB_1, ↓st_hA_10, ↓st_hA_11, ↓ar_hA_11, ↓st_hA_8, ↓st_hA_9, ↓st_hB_10, ↓st_hB_11, ↓ar_hB_11, ↓st_hB_8, ↓st_hB_9, ↓n_33, ↓s_33_0, ↓s_33_12, ↓s_33_31, ↓s_33_48, ↓bk_v, ↓bk_n, ↓bk_r, ↓pv_i, ↓pv_r, ↓pv_0, ↓pv_l, wz_pk, wz_ti, wz_wz, vI_wz, wz_id, wz_0, List.length_cons, List.length_nil, ↓reduceIte, true_and, and_true, Int.reduceLE, Int.reduceLT, Int.reduceEq, not_true_eq_false, not_false_eq_true, false_or, or_false, true_or, or_true, ite_not, Int.reduceNeg, Int32.reduceToInt, Nat.reduceAdd, Nat.reduceLeDiff, Nat.reduceLT, Nat.reduceEqDiff, Int.reduceAdd, Int.reduceSub, Int.reduceMul, Nat.zero_le, pk_po_ne, pk_po_eq, pk_po_ix, rI, ne_eq]
        exact e
    · intro k x hk hr M' hM
      have e := hK.no hk (by rw [k_good, bnd_ok hr1, bnd_no hk hr]) hM
      simp (disch := omega) only [↓x_al_0, ↓c_29, ↓x_is_1, ↓x_il_1, ↓x_c, ↓x_ne, ↓x_irz, ↓gr_75_0, ↓c_74, ↓x_is_2, ↓x_il_2, ↓x_is_3, ↓x_il_3, ↓gd_75_1, ↓gi_hA_1, ↓gi_hB_1, ↓x_is_4, ↓gr_hA_6, ↓gr_hB_6, ↓x_il_4, ↓gr_hA_7, ↓gr_hB_7, ↓gr_hA_8, ↓gr_hB_8, ↓gr_hA_9, ↓gr_hB_9, ↓c_201, ↓x_dup_i, ↓x_dup_r, ↓x_iadd, ↓pi_hA_1, ↓pi_hB_1, ↓st_hA_10, ↓st_hA_11, ↓ar_hA_11, ↓st_hA_8, ↓st_hA_9, ↓st_hB_10, ↓st_hB_11, ↓ar_hB_11, ↓st_hB_8, ↓st_hB_9, ↓n_33, ↓s_33_0, ↓s_33_12, ↓s_33_31, ↓s_33_48, ↓bk_v, ↓bk_n, ↓bk_r, ↓pv_i, ↓pv_r, ↓pv_0, ↓pv_l, wz_pk, wz_ti, wz_wz, vI_wz, wz_id, wz_0, List.length_cons, List.length_nil, ↓reduceIte, true_and, and_true, Int.reduceLE, Int.reduceLT, Int.reduceEq, not_true_eq_false, not_false_eq_true, false_or, or_false, true_or, or_true, ite_not, Int.reduceNeg, Int32.reduceToInt, Nat.reduceAdd, Nat.reduceLeDiff, Nat.reduceLT, Nat.reduceEqDiff, Int.reduceAdd, Int.reduceSub, Int.reduceMul, Nat.zero_le, pk_po_ne, pk_po_eq, pk_po_ix, rI, ne_eq]
      exact e
  · intro k x hk hr M' hM
    have e := hK.no hk (by rw [k_good, bnd_no hk hr]) hM
    simp (disch := omega) only [↓x_al_0, ↓c_29, ↓x_is_1, ↓x_il_1, ↓x_c, ↓x_ne, ↓x_irz, ↓gr_75_0, ↓c_74, ↓x_is_2, ↓x_il_2, ↓x_is_3, ↓x_il_3, ↓gd_75_1, ↓gi_hA_1, ↓gi_hB_1, ↓x_is_4, ↓gr_hA_6, ↓gr_hB_6, ↓x_il_4, ↓gr_hA_7, ↓gr_hB_7, ↓gr_hA_8, ↓gr_hB_8, ↓gr_hA_9, ↓gr_hB_9, ↓c_201, ↓x_dup_i, ↓x_dup_r, ↓x_iadd, ↓pi_hA_1, ↓pi_hB_1, ↓st_hA_10, ↓st_hA_11, ↓ar_hA_11, ↓st_hA_8, ↓st_hA_9, ↓st_hB_10, ↓st_hB_11, ↓ar_hB_11, ↓st_hB_8, ↓st_hB_9, ↓n_33, ↓s_33_0, ↓s_33_12, ↓s_33_31, ↓s_33_48, ↓bk_v, ↓bk_n, ↓bk_r, ↓pv_i, ↓pv_r, ↓pv_0, ↓pv_l, wz_pk, wz_ti, wz_wz, vI_wz, wz_id, wz_0, List.length_cons, List.length_nil, ↓reduceIte, true_and, and_true, Int.reduceLE, Int.reduceLT, Int.reduceEq, not_true_eq_false, not_false_eq_true, false_or, or_false, true_or, or_true, ite_not, Int.reduceNeg, Int32.reduceToInt, Nat.reduceAdd, Nat.reduceLeDiff, Nat.reduceLT, Nat.reduceEqDiff, Int.reduceAdd, Int.reduceSub, Int.reduceMul, Nat.zero_le, pk_po_ne, pk_po_eq, pk_po_ix, rI, ne_eq]
    exact e
theorem C34 (hC : RC S M) (hn : pk M 2 1 = n) (h0 : 0 ≤ p) (h1 : p ≤ n) (h2 : n ≤ 600) (hp : 0 ≤ S 33 0 ∧ S 33 0 ≤ 4) (hg : 0 ≤ S 33 1 ∧ S 33 1 ≤ 12) (ho : ∀ g, 0 ≤ g → g < S 33 1 → 0 ≤ S 41 g ∧ S 41 g < S 33 0) (ht : ∀ g q, 0 ≤ g → g < S 33 1 → 0 ≤ q → q < 4 → 0 ≤ S 44 (4 * g + q) ∧ S 44 (4 * g + q) ≤ 12) (hK : KQ X s dl t M Q (k_part S n p)) : CL 34 [.ref 75] (mkh X s (hB s) dl t (txm M p f)) Q := by
  simp only [↓x_al_0, ↓c_30, ↓x_is_1, ↓x_il_1, ↓x_c, ↓x_ne, ↓x_irz, ↓gd_75_1, ↓gr_hA_9, ↓gr_hB_9, ↓x_as_2, ↓gr_hA_6, ↓gr_hB_6, ↓x_is_3, ↓c_29, ↓x_is_4, ↓x_il_4, ↓x_al_2, ↓x_eq0, ↓gr_75_0, ↓c_68, ↓x_il_3, ↓x_isub, ↓c_74, ↓x_is_5, ↓x_il_5, ↓x_dup2, ↓ld_hA_11, ↓st_hA_11, ↓ar_hA_11, ↓ld_hA_8, ↓st_hA_8, ↓ld_hB_11, ↓st_hB_11, ↓ar_hB_11, ↓ld_hB_8, ↓st_hB_8, ↓n_34, ↓s_34_0, ↓s_34_12, ↓s_34_46, ↓s_34_62, ↓s_34_85, ↓bk_v, ↓bk_n, ↓bk_r, ↓pv_i, ↓pv_r, ↓pv_0, ↓pv_l, wz_pk, wz_ti, wz_wz, vI_wz, wz_id, wz_0, List.length_cons, List.length_nil, ↓reduceIte, true_and, and_true, Int.reduceLE, Int.reduceLT, Int.reduceEq, not_true_eq_false, not_false_eq_true, false_or, or_false, true_or, or_true, ite_not, Int.reduceNeg, Int32.reduceToInt, Nat.reduceAdd, Nat.reduceLeDiff, Nat.reduceLT, Nat.reduceEqDiff, Int.reduceAdd, Int.reduceSub, Int.reduceMul, Nat.zero_le, pk_po_ne, pk_po_eq, pk_po_ix, rI, ne_eq]
  refine C30 hC hn h0 h1 h2 hg ?_ ?_
  · intro e1 v1 hr1
    obtain ⟨b1, c1⟩ := rdN_ok h1 hr1
    have d1 : ¬ v1 = -1 := by omega
    have q1 : v1 < 12 := by omega
    have q2 : 0 ≤ v1 := by omega
    have how := ho v1 (by omega) (by omega)
    have ro := hC.at 41 rfl v1
    have q5 : S 41 v1 < 4 := by omega
    have q6 : 0 ≤ S 41 v1 := by omega
    simp (disch := omega) only [↓x_al_0, ↓c_30, ↓x_is_1, ↓x_il_1, ↓x_c, ↓x_ne, ↓x_irz, ↓gd_75_1, ↓gr_hA_9, ↓gr_hB_9, ↓x_as_2, ↓gr_hA_6, ↓gr_hB_6, ↓x_is_3, ↓c_29, ↓x_is_4, ↓x_il_4, ↓x_al_2, ↓x_eq0, ↓gr_75_0, ↓c_68, ↓x_il_3, ↓x_isub, ↓c_74, ↓x_is_5, ↓x_il_5, ↓x_dup2, ↓ld_hA_11, ↓st_hA_11, ↓ar_hA_11, ↓ld_hA_8, ↓st_hA_8, ↓ld_hB_11, ↓st_hB_11, ↓ar_hB_11, ↓ld_hB_8, ↓st_hB_8, ↓n_34, ↓s_34_0, ↓s_34_12, ↓s_34_46, ↓s_34_62, ↓s_34_85, ↓bk_v, ↓bk_n, ↓bk_r, ↓pv_i, ↓pv_r, ↓pv_0, ↓pv_l, wz_pk, wz_ti, wz_wz, vI_wz, wz_id, wz_0, List.length_cons, List.length_nil, ↓reduceIte, true_and, and_true, Int.reduceLE, Int.reduceLT, Int.reduceEq, not_true_eq_false, not_false_eq_true, false_or, or_false, true_or, or_true, ite_not, Int.reduceNeg, Int32.reduceToInt, Nat.reduceAdd, Nat.reduceLeDiff, Nat.reduceLT, Nat.reduceEqDiff, Int.reduceAdd, Int.reduceSub, Int.reduceMul, Nat.zero_le, pk_po_ne, pk_po_eq, pk_po_ix, rI, ne_eq, d1, if_false, q1, q2, tx_o, ro]
    refine C29 hC hn (by omega) c1.2 h2 hp ?_ ?_
    · intro e2 v2 hr2
      obtain ⟨b2, c2⟩ := rdN_ok c1.2 hr2
      have d2 : ¬ v2 = -1 := by omega
      have q3 : v2 < 4 := by omega
      have q4 : 0 ≤ v2 := by omega
      have ecl : cl v1 12 = v1 := cl_id (by omega) (by omega) (by decide)
      have rt : pk M 44 (4 * cl v1 12 + v2) = S 44 (4 * v1 + v2) := by rw [ecl]; exact hC.at 44 rfl (4 * v1 + v2)
      have rt2 : pk M 44 (4 * cl v1 12 + S 41 v1) = S 44 (4 * v1 + S 41 v1) := by rw [ecl]; exact hC.at 44 rfl (4 * v1 + S 41 v1)
      have hb2 := ht v1 (S 41 v1) (by omega) (by omega) (by omega) (by omega)
      have hb3 := ht v1 v2 (by omega) (by omega) (by omega) (by omega)
      by_cases c3 : S 44 (4 * v1 + v2) = 0
      · have ne : ¬ S 44 (4 * v1 + v2) < 0 := by omega
        simp (disch := omega) only [↓x_al_0, ↓c_30, ↓x_is_1, ↓x_il_1, ↓x_c, ↓x_ne, ↓x_irz, ↓gd_75_1, ↓gr_hA_9, ↓gr_hB_9, ↓x_as_2, ↓gr_hA_6, ↓gr_hB_6, ↓x_is_3, ↓c_29, ↓x_is_4, ↓x_il_4, ↓x_al_2, ↓x_eq0, ↓gr_75_0, ↓c_68, ↓x_il_3, ↓x_isub, ↓c_74, ↓x_is_5, ↓x_il_5, ↓x_dup2, ↓ld_hA_11, ↓st_hA_11, ↓ar_hA_11, ↓ld_hA_8, ↓st_hA_8, ↓ld_hB_11, ↓st_hB_11, ↓ar_hB_11, ↓ld_hB_8, ↓st_hB_8, ↓n_34, ↓s_34_0, ↓s_34_12, ↓s_34_46, ↓s_34_62, ↓s_34_85, ↓bk_v, ↓bk_n, ↓bk_r, ↓pv_i, ↓pv_r, ↓pv_0, ↓pv_l, wz_pk, wz_ti, wz_wz, vI_wz, wz_id, wz_0, List.length_cons, List.length_nil, ↓reduceIte, true_and, and_true, Int.reduceLE, Int.reduceLT, Int.reduceEq, not_true_eq_false, not_false_eq_true, false_or, or_false, true_or, or_true, ite_not, Int.reduceNeg, Int32.reduceToInt, Nat.reduceAdd, Nat.reduceLeDiff, Nat.reduceLT, Nat.reduceEqDiff, Int.reduceAdd, Int.reduceSub, Int.reduceMul, Nat.zero_le, pk_po_ne, pk_po_eq, pk_po_ix, rI, ne_eq, d2, if_false, q1, q2, q3, q4, q5, q6, tx_o, ↓ld_hB_11, ↓st_hB_11, rt, rt2, c3, if_true]
        refine C74 hC hn (by omega) c2.2 h2 rfl (wz_id (by omega) (by omega)) ?_ ?_
        · intro e3 v3 hr3
          obtain ⟨b3, c4⟩ := rdN_ok c2.2 hr3
          have d3 : ¬ v3 = -1 := by omega
          have ne2 : ¬ (4 * v1 + S 41 v1 = 4 * v1 + v2) := by
            intro h
            rw [h, c3] at b3
            omega
          have rt3 : pk (po M 44 (4 * cl v1 12 + v2) v3) 44 (4 * cl v1 12 + S 41 v1) = S 44 (4 * v1 + S 41 v1) := by rw [ecl, pk_po_ix ne2]; exact hC.at 44 rfl (4 * v1 + S 41 v1)
          have e := hK.ok (M' := po (po M 44 (4 * v1 + v2) v3) 44 (4 * v1 + S 41 v1) (S 44 (4 * v1 + S 41 v1) - v3)) (f' := sk S n e2) (by rw [k_part, bnd_ok hr1, bnd_ok hr2, if_neg (by simp [c3]), bnd_ok hr3]) ((hC.putz (by decide) (wz_id (by omega) (by omega))).putz (by decide) (wz_id (by omega) (by omega))) (by funext j; rw [po_ne (by simp), po_ne (by simp)]) ((FC.rfl.pw (by decide)).pw (by decide))
          simp (disch := omega) only [↓x_al_0, ↓c_30, ↓x_is_1, ↓x_il_1, ↓x_c, ↓x_ne, ↓x_irz, ↓gd_75_1, ↓gr_hA_9, ↓gr_hB_9, ↓x_as_2, ↓gr_hA_6, ↓gr_hB_6, ↓x_is_3, ↓c_29, ↓x_is_4, ↓x_il_4, ↓x_al_2, ↓x_eq0, ↓gr_75_0, ↓c_68, ↓x_il_3, ↓x_isub, ↓c_74, ↓x_is_5, ↓x_il_5, ↓x_dup2, ↓ld_hA_11, ↓st_hA_11, ↓ar_hA_11, ↓ld_hA_8, ↓st_hA_8, ↓ld_hB_11, ↓st_hB_11, ↓ar_hB_11, ↓ld_hB_8, ↓st_hB_8, ↓n_34, ↓s_34_0, ↓s_34_12, ↓s_34_46, ↓s_34_62, ↓s_34_85, ↓bk_v, ↓bk_n, ↓bk_r, ↓pv_i, ↓pv_r, ↓pv_0, ↓pv_l, wz_pk, wz_ti, wz_wz, vI_wz, wz_id, wz_0, List.length_cons, List.length_nil, ↓reduceIte, true_and, and_true, Int.reduceLE, Int.reduceLT, Int.reduceEq, not_true_eq_false, not_false_eq_true, false_or, or_false, true_or, or_true, ite_not, Int.reduceNeg, Int32.reduceToInt, Nat.reduceAdd, Nat.reduceLeDiff, Nat.reduceLT, Nat.reduceEqDiff, Int.reduceAdd, Int.reduceSub, Int.reduceMul, Nat.zero_le, pk_po_ne, pk_po_eq, pk_po_ix, rI, ne_eq, d3, if_false, q1, q2, q3, q4, q5, q6, tx_o, tx_po, ↓ld_hB_11, ↓st_hB_11, rt3]
          rw [ecl]
          exact e
        · intro k x hk hr M' hM
          have e := hK.no hk (by rw [k_part, bnd_ok hr1, bnd_ok hr2, if_neg (by simp [c3]), bnd_no hk hr]) hM
          simp (disch := omega) only [↓x_al_0, ↓c_30, ↓x_is_1, ↓x_il_1, ↓x_c, ↓x_ne, ↓x_irz, ↓gd_75_1, ↓gr_hA_9, ↓gr_hB_9, ↓x_as_2, ↓gr_hA_6, ↓gr_hB_6, ↓x_is_3, ↓c_29, ↓x_is_4, ↓x_il_4, ↓x_al_2, ↓x_eq0, ↓gr_75_0, ↓c_68, ↓x_il_3, ↓x_isub, ↓c_74, ↓x_is_5, ↓x_il_5, ↓x_dup2, ↓ld_hA_11, ↓st_hA_11, ↓ar_hA_11, ↓ld_hA_8, ↓st_hA_8, ↓ld_hB_11, ↓st_hB_11, ↓ar_hB_11, ↓ld_hB_8, ↓st_hB_8, ↓n_34, ↓s_34_0, ↓s_34_12, ↓s_34_46, ↓s_34_62, ↓s_34_85, ↓bk_v, ↓bk_n, ↓bk_r, ↓pv_i, ↓pv_r, ↓pv_0, ↓pv_l, wz_pk, wz_ti, wz_wz, vI_wz, wz_id, wz_0, List.length_cons, List.length_nil, ↓reduceIte, true_and, and_true, Int.reduceLE, Int.reduceLT, Int.reduceEq, not_true_eq_false, not_false_eq_true, false_or, or_false, true_or, or_true, ite_not, Int.reduceNeg, Int32.reduceToInt, Nat.reduceAdd, Nat.reduceLeDiff, Nat.reduceLT, Nat.reduceEqDiff, Int.reduceAdd, Int.reduceSub, Int.reduceMul, Nat.zero_le, pk_po_ne, pk_po_eq, pk_po_ix, rI, ne_eq]
          exact e
      · have hs := sk_rng (S := S) c1.2
        simp (disch := omega) only [↓x_al_0, ↓c_30, ↓x_is_1, ↓x_il_1, ↓x_c, ↓x_ne, ↓x_irz, ↓gd_75_1, ↓gr_hA_9, ↓gr_hB_9, ↓x_as_2, ↓gr_hA_6, ↓gr_hB_6, ↓x_is_3, ↓c_29, ↓x_is_4, ↓x_il_4, ↓x_al_2, ↓x_eq0, ↓gr_75_0, ↓c_68, ↓x_il_3, ↓x_isub, ↓c_74, ↓x_is_5, ↓x_il_5, ↓x_dup2, ↓ld_hA_11, ↓st_hA_11, ↓ar_hA_11, ↓ld_hA_8, ↓st_hA_8, ↓ld_hB_11, ↓st_hB_11, ↓ar_hB_11, ↓ld_hB_8, ↓st_hB_8, ↓n_34, ↓s_34_0, ↓s_34_12, ↓s_34_46, ↓s_34_62, ↓s_34_85, ↓bk_v, ↓bk_n, ↓bk_r, ↓pv_i, ↓pv_r, ↓pv_0, ↓pv_l, wz_pk, wz_ti, wz_wz, vI_wz, wz_id, wz_0, List.length_cons, List.length_nil, ↓reduceIte, true_and, and_true, Int.reduceLE, Int.reduceLT, Int.reduceEq, not_true_eq_false, not_false_eq_true, false_or, or_false, true_or, or_true, ite_not, Int.reduceNeg, Int32.reduceToInt, Nat.reduceAdd, Nat.reduceLeDiff, Nat.reduceLT, Nat.reduceEqDiff, Int.reduceAdd, Int.reduceSub, Int.reduceMul, Nat.zero_le, pk_po_ne, pk_po_eq, pk_po_ix, rI, ne_eq, d2, if_false, q1, q2, q3, q4, tx_o, ↓ld_hB_11, ↓st_hB_11, rt, c3]
        refine C68 rfl (wz_id (by omega) (by omega)) ?_
        intro M' hM
        have e := hK.no (k := 2) (by decide) (by rw [k_part, bnd_ok hr1, bnd_ok hr2, if_pos c3]) hM
        simp (disch := omega) only [↓x_al_0, ↓c_30, ↓x_is_1, ↓x_il_1, ↓x_c, ↓x_ne, ↓x_irz, ↓gd_75_1, ↓gr_hA_9, ↓gr_hB_9, ↓x_as_2, ↓gr_hA_6, ↓gr_hB_6, ↓x_is_3, ↓c_29, ↓x_is_4, ↓x_il_4, ↓x_al_2, ↓x_eq0, ↓gr_75_0, ↓c_68, ↓x_il_3, ↓x_isub, ↓c_74, ↓x_is_5, ↓x_il_5, ↓x_dup2, ↓ld_hA_11, ↓st_hA_11, ↓ar_hA_11, ↓ld_hA_8, ↓st_hA_8, ↓ld_hB_11, ↓st_hB_11, ↓ar_hB_11, ↓ld_hB_8, ↓st_hB_8, ↓n_34, ↓s_34_0, ↓s_34_12, ↓s_34_46, ↓s_34_62, ↓s_34_85, ↓bk_v, ↓bk_n, ↓bk_r, ↓pv_i, ↓pv_r, ↓pv_0, ↓pv_l, wz_pk, wz_ti, wz_wz, vI_wz, wz_id, wz_0, List.length_cons, List.length_nil, ↓reduceIte, true_and, and_true, Int.reduceLE, Int.reduceLT, Int.reduceEq, not_true_eq_false, not_false_eq_true, false_or, or_false, true_or, or_true, ite_not, Int.reduceNeg, Int32.reduceToInt, Nat.reduceAdd, Nat.reduceLeDiff, Nat.reduceLT, Nat.reduceEqDiff, Int.reduceAdd, Int.reduceSub, Int.reduceMul, Nat.zero_le, pk_po_ne, pk_po_eq, pk_po_ix, rI, ne_eq]
        exact e
    · intro k x hk hr M' hM
      have e := hK.no hk (by rw [k_part, bnd_ok hr1, bnd_no hk hr]) hM
      simp (disch := omega) only [↓x_al_0, ↓c_30, ↓x_is_1, ↓x_il_1, ↓x_c, ↓x_ne, ↓x_irz, ↓gd_75_1, ↓gr_hA_9, ↓gr_hB_9, ↓x_as_2, ↓gr_hA_6, ↓gr_hB_6, ↓x_is_3, ↓c_29, ↓x_is_4, ↓x_il_4, ↓x_al_2, ↓x_eq0, ↓gr_75_0, ↓c_68, ↓x_il_3, ↓x_isub, ↓c_74, ↓x_is_5, ↓x_il_5, ↓x_dup2, ↓ld_hA_11, ↓st_hA_11, ↓ar_hA_11, ↓ld_hA_8, ↓st_hA_8, ↓ld_hB_11, ↓st_hB_11, ↓ar_hB_11, ↓ld_hB_8, ↓st_hB_8, ↓n_34, ↓s_34_0, ↓s_34_12, ↓s_34_46, ↓s_34_62, ↓s_34_85, ↓bk_v, ↓bk_n, ↓bk_r, ↓pv_i, ↓pv_r, ↓pv_0, ↓pv_l, wz_pk, wz_ti, wz_wz, vI_wz, wz_id, wz_0, List.length_cons, List.length_nil, ↓reduceIte, true_and, and_true, Int.reduceLE, Int.reduceLT, Int.reduceEq, not_true_eq_false, not_false_eq_true, false_or, or_false, true_or, or_true, ite_not, Int.reduceNeg, Int32.reduceToInt, Nat.reduceAdd, Nat.reduceLeDiff, Nat.reduceLT, Nat.reduceEqDiff, Int.reduceAdd, Int.reduceSub, Int.reduceMul, Nat.zero_le, pk_po_ne, pk_po_eq, pk_po_ix, rI, ne_eq]
      exact e
  · intro k x hk hr M' hM
    have e := hK.no hk (by rw [k_part, bnd_no hk hr]) hM
    simp (disch := omega) only [↓x_al_0, ↓c_30, ↓x_is_1, ↓x_il_1, ↓x_c, ↓x_ne, ↓x_irz, ↓gd_75_1, ↓gr_hA_9, ↓gr_hB_9, ↓x_as_2, ↓gr_hA_6, ↓gr_hB_6, ↓x_is_3, ↓c_29, ↓x_is_4, ↓x_il_4, ↓x_al_2, ↓x_eq0, ↓gr_75_0, ↓c_68, ↓x_il_3, ↓x_isub, ↓c_74, ↓x_is_5, ↓x_il_5, ↓x_dup2, ↓ld_hA_11, ↓st_hA_11, ↓ar_hA_11, ↓ld_hA_8, ↓st_hA_8, ↓ld_hB_11, ↓st_hB_11, ↓ar_hB_11, ↓ld_hB_8, ↓st_hB_8, ↓n_34, ↓s_34_0, ↓s_34_12, ↓s_34_46, ↓s_34_62, ↓s_34_85, ↓bk_v, ↓bk_n, ↓bk_r, ↓pv_i, ↓pv_r, ↓pv_0, ↓pv_l, wz_pk, wz_ti, wz_wz, vI_wz, wz_id, wz_0, List.length_cons, List.length_nil, ↓reduceIte, true_and, and_true, Int.reduceLE, Int.reduceLT, Int.reduceEq, not_true_eq_false, not_false_eq_true, false_or, or_false, true_or, or_true, ite_not, Int.reduceNeg, Int32.reduceToInt, Nat.reduceAdd, Nat.reduceLeDiff, Nat.reduceLT, Nat.reduceEqDiff, Int.reduceAdd, Int.reduceSub, Int.reduceMul, Nat.zero_le, pk_po_ne, pk_po_eq, pk_po_ix, rI, ne_eq]
    exact e
end C45
