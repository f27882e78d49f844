/-! A HOUSE, whole -/
def clrH (S : St) : St := flS (flS (flS (flS (su (su (su S 33 0 0) 33 1 0) 33 2 0) 40 0 4 10000) 57 0 12 10000) 58 0 12 10000) 62 0 4 0
def clrC (S : St) : St := flS (flS (flS (flS (su (su S 78 0 0) 78 9 0) 83 0 12 (-1)) 84 0 12 0) 85 0 6 0) 86 0 4 (-1)
def swSH (S : St) : St := fun a => if 3 ≤ a ∧ a < 33 then S (a + 30) else if 33 ≤ a ∧ a < 63 then S (a - 30) else S a
def hsR (S : St) (n : Int) : K3 := k_all n 61 0 0 (clrH (su (su S 0 1 0) 2 5 (-1)))
def o_house (S : St) (n : Int) : R3 := if 0 ≤ n ∧ n ≤ S 0 1 then (if (hsR S n).1 = 0 then (0, (hsR S n).2.2 33 1, su (clrC (swSH (hsR S n).2.2)) 0 11 0) else (0, (hsR S n).1 - 10, su (hsR S n).2.2 2 5 (hsR S n).2.1)) else (2, 0, rf S 1)
/-- a call of the class, whatever house and law are in use behind it -/
def PG (X : Nat × (Nat → Int32)) (t : Nat) (M : Mem) (Q : MOut → MHp → Prop) (r : R3) : Prop := ∀ s dh dl, PC X s dh dl t M Q r
theorem bnd_S {r : Int × Int × Int} {S : St} {g : Int → Int → K3} {k x : Int} {S' : St} (hg : ∀ a b, g a b = (k, x, S') → S' = S) (hk : ¬ k = 0) (h : bnd r S g = (k, x, S')) : S' = S := by
  unfold bnd at h
  split at h
  · exact hg _ _ h
  · simp only [Prod.mk.injEq] at h; exact h.2.2.symm
theorem k_fail {S : St} {k x a : Int} {S' S2 : St} (hk : ¬ k = 0) (h : (0, a, S2) = (k, x, S')) : S' = S := by
  simp only [Prod.mk.injEq] at h
  exact absurd h.1.symm hk
theorem kc_S {S S' : St} {n q e k x : Int} {m : Bool} (hk : ¬ k = 0) (h : k_clause S n m q e = (k, x, S')) : S' = S := by
  have key : ∀ a b : Int, (a, b, S) = (k, x, S') → S' = S := fun a b h => by simp only [Prod.mk.injEq] at h; exact h.2.2.symm
  unfold k_clause at h
  repeat' split at h
  all_goals first
    | exact key _ _ h
    | (unfold k_person at h; exact bnd_S (fun a b h => bnd_S (fun a b h => k_fail hk h) hk h) hk h)
    | (unfold k_ill at h; exact bnd_S (fun a b h => bnd_S (fun a b h => k_fail hk h) hk h) hk h)
    | (unfold k_fee at h; exact bnd_S (fun a b h => bnd_S (fun a b h => k_fail hk h) hk h) hk h)
    | (unfold k_good at h; exact bnd_S (fun a b h => bnd_S (fun a b h => bnd_S (fun a b h => k_fail hk h) hk h) hk h) hk h)
    | (unfold k_month at h; exact bnd_S (fun a b h => bnd_S (fun a b h => bnd_S (fun a b h => k_fail hk h) hk h) hk h) hk h)
    | (unfold k_debt at h; exact bnd_S (fun a b h => bnd_S (fun a b h => bnd_S (fun a b h => k_fail hk h) hk h) hk h) hk h)
    | (unfold k_claim at h; exact bnd_S (fun a b h => bnd_S (fun a b h => bnd_S (fun a b h => k_fail hk h) hk h) hk h) hk h)
    | (unfold k_part at h; exact bnd_S (fun a b h => bnd_S (fun c d h => by
        split at h
        · exact key _ _ h
        · exact bnd_S (fun a b h => k_fail hk h) hk h) hk h) hk h)
theorem kc_m {S S' : St} {n q e x : Int} : ¬ k_clause S n true q e = (0, x, S') := by
  intro h
  unfold k_clause at h
  repeat' split at h
  all_goals simp at *
theorem kp_clause {S S' : St} {n q e x : Int} {m : Bool} (hp : e ≤ n) (hH : nho S) (h : k_clause S n m q e = (0, x, S')) : nho S' ∧ (e < x ∧ x ≤ n) ∧ hag S S' := by
  have h1 := hH.np
  unfold k_clause at h
  repeat' split at h
  all_goals first
    | (simp at h; done)
    | exact kp_person hp hH (by omega) h
    | exact kp_good hp hH (by omega) h
    | exact kp_debt hp hH (by omega) h
    | exact kp_month hp hH h
    | exact kp_part hp hH h
    | exact kp_claim hp hH h
    | exact kp_ill hp hH h
    | exact kp_fee hp hH h
theorem nho_clr {S : St} : nho (clrH S) := by
  unfold clrH
  refine ⟨?_, ?_, ?_, ?_, ?_, ?_, ?_, ?_, ?_, ?_, ?_, ?_, ?_, ?_, ?_, ?_, ?_, ?_⟩ <;> simp [su, flS] <;> grind
theorem sk_hag {S S' : St} {n p : Int} (h : S' 1 = S 1) : sk S' n p = sk S n p := by unfold sk isB; rw [h]
section C49
variable {Q : MOut → MHp → Prop} {X : Nat × (Nat → Int32)} {s : Bool × Bool} {dh dl t : Nat} {M : Mem} {S : St} {p f n : Int}
theorem C18 : CL 18 [.ref (hB s)] (mkh X s dh dl t M) Q ↔ Q (.inl none) (mkh X s dh dl t (flm (flm (flm (flm (po (po (po M 33 0 0) 33 1 0) 33 2 0) 40 0 4 10000) 57 0 12 10000) 58 0 12 10000) 62 0 4 0)) := by
  simp only [↓x_al_0, ↓x_c, ↓pi_hA_0, ↓pi_hB_0, ↓pi_hA_1, ↓pi_hB_1, ↓pi_hA_2, ↓pi_hB_2, ↓gr_hA_5, ↓gr_hB_5, ↓c_201, ↓gr_hA_10, ↓gr_hB_10, ↓gr_hA_11, ↓gr_hB_11, ↓gr_hA_15, ↓gr_hB_15, ↓x_rt, ↓n_18, ↓s_18_0, ↓bk_v, ↓bk_n, ↓bk_r, ↓pv_i, ↓pv_r, ↓pv_0, ↓pv_l, wz_pk, wz_ti, wz_wz, vI_wz, wz_id, wz_0, List.length_cons, List.length_nil, ↓reduceIte, true_and, and_true, Int.reduceLE, Int.reduceLT, Int.reduceEq, not_true_eq_false, not_false_eq_true, false_or, or_false, true_or, or_true, ite_not, Int.reduceNeg, Int32.reduceToInt, Nat.reduceAdd, Nat.reduceLeDiff, Nat.reduceLT, Nat.reduceEqDiff, Int.reduceAdd, Int.reduceSub, Int.reduceMul, Nat.zero_le, pk_po_ne, pk_po_eq, pk_po_ix, rI, ne_eq]
  rw [C201 (n := 4) (d := 40) (f := 0) (by rw [swp_hB (by decide)]; rfl) (hB_lt (by decide)) (by decide)]
  simp only [↓x_al_0, ↓x_c, ↓pi_hA_0, ↓pi_hB_0, ↓pi_hA_1, ↓pi_hB_1, ↓pi_hA_2, ↓pi_hB_2, ↓gr_hA_5, ↓gr_hB_5, ↓c_201, ↓gr_hA_10, ↓gr_hB_10, ↓gr_hA_11, ↓gr_hB_11, ↓gr_hA_15, ↓gr_hB_15, ↓x_rt, ↓n_18, ↓s_18_0, ↓bk_v, ↓bk_n, ↓bk_r, ↓pv_i, ↓pv_r, ↓pv_0, ↓pv_l, wz_pk, wz_ti, wz_wz, vI_wz, wz_id, wz_0, List.length_cons, List.length_nil, ↓reduceIte, true_and, and_true, Int.reduceLE, Int.reduceLT, Int.reduceEq, not_true_eq_false, not_false_eq_true, false_or, or_false, true_or, or_true, ite_not, Int.reduceNeg, Int32.reduceToInt, Nat.reduceAdd, Nat.reduceLeDiff, Nat.reduceLT, Nat.reduceEqDiff, Int.reduceAdd, Int.reduceSub, Int.reduceMul, Nat.zero_le, pk_po_ne, pk_po_eq, pk_po_ix, rI, ne_eq]
  rw [C201 (n := 12) (d := 57) (f := 0) (by rw [swp_hB (by decide)]; rfl) (hB_lt (by decide)) (by decide)]
  simp only [↓x_al_0, ↓x_c, ↓pi_hA_0, ↓pi_hB_0, ↓pi_hA_1, ↓pi_hB_1, ↓pi_hA_2, ↓pi_hB_2, ↓gr_hA_5, ↓gr_hB_5, ↓c_201, ↓gr_hA_10, ↓gr_hB_10, ↓gr_hA_11, ↓gr_hB_11, ↓gr_hA_15, ↓gr_hB_15, ↓x_rt, ↓n_18, ↓s_18_0, ↓bk_v, ↓bk_n, ↓bk_r, ↓pv_i, ↓pv_r, ↓pv_0, ↓pv_l, wz_pk, wz_ti, wz_wz, vI_wz, wz_id, wz_0, List.length_cons, List.length_nil, ↓reduceIte, true_and, and_true, Int.reduceLE, Int.reduceLT, Int.reduceEq, not_true_eq_false, not_false_eq_true, false_or, or_false, true_or, or_true, ite_not, Int.reduceNeg, Int32.reduceToInt, Nat.reduceAdd, Nat.reduceLeDiff, Nat.reduceLT, Nat.reduceEqDiff, Int.reduceAdd, Int.reduceSub, Int.reduceMul, Nat.zero_le, pk_po_ne, pk_po_eq, pk_po_ix, rI, ne_eq]
  rw [C201 (n := 12) (d := 58) (f := 0) (by rw [swp_hB (by decide)]; rfl) (hB_lt (by decide)) (by decide)]
  simp only [↓x_al_0, ↓x_c, ↓pi_hA_0, ↓pi_hB_0, ↓pi_hA_1, ↓pi_hB_1, ↓pi_hA_2, ↓pi_hB_2, ↓gr_hA_5, ↓gr_hB_5, ↓c_201, ↓gr_hA_10, ↓gr_hB_10, ↓gr_hA_11, ↓gr_hB_11, ↓gr_hA_15, ↓gr_hB_15, ↓x_rt, ↓n_18, ↓s_18_0, ↓bk_v, ↓bk_n, ↓bk_r, ↓pv_i, ↓pv_r, ↓pv_0, ↓pv_l, wz_pk, wz_ti, wz_wz, vI_wz, wz_id, wz_0, List.length_cons, List.length_nil, ↓reduceIte, true_and, and_true, Int.reduceLE, Int.reduceLT, Int.reduceEq, not_true_eq_false, not_false_eq_true, false_or, or_false, true_or, or_true, ite_not, Int.reduceNeg, Int32.reduceToInt, Nat.reduceAdd, Nat.reduceLeDiff, Nat.reduceLT, Nat.reduceEqDiff, Int.reduceAdd, Int.reduceSub, Int.reduceMul, Nat.zero_le, pk_po_ne, pk_po_eq, pk_po_ix, rI, ne_eq]
  rw [C201 (n := 4) (d := 62) (f := 0) (by rw [swp_hB (by decide)]; rfl) (hB_lt (by decide)) (by decide)]
  simp only [↓x_al_0, ↓x_c, ↓pi_hA_0, ↓pi_hB_0, ↓pi_hA_1, ↓pi_hB_1, ↓pi_hA_2, ↓pi_hB_2, ↓gr_hA_5, ↓gr_hB_5, ↓c_201, ↓gr_hA_10, ↓gr_hB_10, ↓gr_hA_11, ↓gr_hB_11, ↓gr_hA_15, ↓gr_hB_15, ↓x_rt, ↓n_18, ↓s_18_0, ↓bk_v, ↓bk_n, ↓bk_r, ↓pv_i, ↓pv_r, ↓pv_0, ↓pv_l, wz_pk, wz_ti, wz_wz, vI_wz, wz_id, wz_0, List.length_cons, List.length_nil, ↓reduceIte, true_and, and_true, Int.reduceLE, Int.reduceLT, Int.reduceEq, not_true_eq_false, not_false_eq_true, false_or, or_false, true_or, or_true, ite_not, Int.reduceNeg, Int32.reduceToInt, Nat.reduceAdd, Nat.reduceLeDiff, Nat.reduceLT, Nat.reduceEqDiff, Int.reduceAdd, Int.reduceSub, Int.reduceMul, Nat.zero_le, pk_po_ne, pk_po_eq, pk_po_ix, rI, ne_eq]
  exact Iff.rfl
theorem C1 : CL 1 [.ref 78] (mkh X s dh dl t M) Q ↔ Q (.inl none) (mkh X s dh dl t (flm (flm (flm (flm (po (po M 78 0 0) 78 9 0) 83 0 12 (-1)) 84 0 12 0) 85 0 6 0) 86 0 4 (-1))) := by
  simp only [↓x_al_0, ↓x_c, ↓pi_78_0, ↓pi_78_9, ↓gr_78_5, ↓c_201, ↓gr_78_6, ↓gr_78_7, ↓gr_78_8, ↓x_rt, ↓n_1, ↓s_1_0, ↓bk_v, ↓bk_n, ↓bk_r, ↓pv_i, ↓pv_r, ↓pv_0, ↓pv_l, wz_pk, wz_ti, wz_wz, vI_wz, wz_id, wz_0, List.length_cons, List.length_nil, ↓reduceIte, true_and, and_true, Int.reduceLE, Int.reduceLT, Int.reduceEq, not_true_eq_false, not_false_eq_true, false_or, or_false, true_or, or_true, ite_not, Int.reduceNeg, Int32.reduceToInt, Nat.reduceAdd, Nat.reduceLeDiff, Nat.reduceLT, Nat.reduceEqDiff, Int.reduceAdd, Int.reduceSub, Int.reduceMul, Nat.zero_le, pk_po_ne, pk_po_eq, pk_po_ix, rI, ne_eq]
  rw [C201 (n := 12) (d := 83) (f := 0) (by rw [swp_out (by decide)]; rfl) (by decide) (by decide)]
  simp only [↓x_al_0, ↓x_c, ↓pi_78_0, ↓pi_78_9, ↓gr_78_5, ↓c_201, ↓gr_78_6, ↓gr_78_7, ↓gr_78_8, ↓x_rt, ↓n_1, ↓s_1_0, ↓bk_v, ↓bk_n, ↓bk_r, ↓pv_i, ↓pv_r, ↓pv_0, ↓pv_l, wz_pk, wz_ti, wz_wz, vI_wz, wz_id, wz_0, List.length_cons, List.length_nil, ↓reduceIte, true_and, and_true, Int.reduceLE, Int.reduceLT, Int.reduceEq, not_true_eq_false, not_false_eq_true, false_or, or_false, true_or, or_true, ite_not, Int.reduceNeg, Int32.reduceToInt, Nat.reduceAdd, Nat.reduceLeDiff, Nat.reduceLT, Nat.reduceEqDiff, Int.reduceAdd, Int.reduceSub, Int.reduceMul, Nat.zero_le, pk_po_ne, pk_po_eq, pk_po_ix, rI, ne_eq]
  rw [C201 (n := 12) (d := 84) (f := 0) (by rw [swp_out (by decide)]; rfl) (by decide) (by decide)]
  simp only [↓x_al_0, ↓x_c, ↓pi_78_0, ↓pi_78_9, ↓gr_78_5, ↓c_201, ↓gr_78_6, ↓gr_78_7, ↓gr_78_8, ↓x_rt, ↓n_1, ↓s_1_0, ↓bk_v, ↓bk_n, ↓bk_r, ↓pv_i, ↓pv_r, ↓pv_0, ↓pv_l, wz_pk, wz_ti, wz_wz, vI_wz, wz_id, wz_0, List.length_cons, List.length_nil, ↓reduceIte, true_and, and_true, Int.reduceLE, Int.reduceLT, Int.reduceEq, not_true_eq_false, not_false_eq_true, false_or, or_false, true_or, or_true, ite_not, Int.reduceNeg, Int32.reduceToInt, Nat.reduceAdd, Nat.reduceLeDiff, Nat.reduceLT, Nat.reduceEqDiff, Int.reduceAdd, Int.reduceSub, Int.reduceMul, Nat.zero_le, pk_po_ne, pk_po_eq, pk_po_ix, rI, ne_eq]
  rw [C201 (n := 6) (d := 85) (f := 0) (by rw [swp_out (by decide)]; rfl) (by decide) (by decide)]
  simp only [↓x_al_0, ↓x_c, ↓pi_78_0, ↓pi_78_9, ↓gr_78_5, ↓c_201, ↓gr_78_6, ↓gr_78_7, ↓gr_78_8, ↓x_rt, ↓n_1, ↓s_1_0, ↓bk_v, ↓bk_n, ↓bk_r, ↓pv_i, ↓pv_r, ↓pv_0, ↓pv_l, wz_pk, wz_ti, wz_wz, vI_wz, wz_id, wz_0, List.length_cons, List.length_nil, ↓reduceIte, true_and, and_true, Int.reduceLE, Int.reduceLT, Int.reduceEq, not_true_eq_false, not_false_eq_true, false_or, or_false, true_or, or_true, ite_not, Int.reduceNeg, Int32.reduceToInt, Nat.reduceAdd, Nat.reduceLeDiff, Nat.reduceLT, Nat.reduceEqDiff, Int.reduceAdd, Int.reduceSub, Int.reduceMul, Nat.zero_le, pk_po_ne, pk_po_eq, pk_po_ix, rI, ne_eq]
  rw [C201 (n := 4) (d := 86) (f := 0) (by rw [swp_out (by decide)]; rfl) (by decide) (by decide)]
  simp only [↓x_al_0, ↓x_c, ↓pi_78_0, ↓pi_78_9, ↓gr_78_5, ↓c_201, ↓gr_78_6, ↓gr_78_7, ↓gr_78_8, ↓x_rt, ↓n_1, ↓s_1_0, ↓bk_v, ↓bk_n, ↓bk_r, ↓pv_i, ↓pv_r, ↓pv_0, ↓pv_l, wz_pk, wz_ti, wz_wz, vI_wz, wz_id, wz_0, List.length_cons, List.length_nil, ↓reduceIte, true_and, and_true, Int.reduceLE, Int.reduceLT, Int.reduceEq, not_true_eq_false, not_false_eq_true, false_or, or_false, true_or, or_true, ite_not, Int.reduceNeg, Int32.reduceToInt, Nat.reduceAdd, Nat.reduceLeDiff, Nat.reduceLT, Nat.reduceEqDiff, Int.reduceAdd, Int.reduceSub, Int.reduceMul, Nat.zero_le, pk_po_ne, pk_po_eq, pk_po_ix, rI, ne_eq]
  exact Iff.rfl
theorem C67 (h0 : 0 ≤ n) (h1 : n ≤ 600) : CL 67 [.ref 2, vI n] (mkh X s dh dl t M) Q ↔ Q (.inl none) (mkh X s dh dl t (txm (po (po (po M 2 1 n) 2 4 0) 2 5 (-1)) 0 0)) := by
  have e1 : max 0 (min n 600) = n := by omega
  have e2 : po (po (po (po (po M 2 1 n) 2 2 0) 2 3 0) 2 4 0) 2 5 (-1) = txm (po (po (po M 2 1 n) 2 4 0) 2 5 (-1)) 0 0 := by
    funext e j
    simp only [txm, po]
    grind
  simp (disch := omega) only [↓x_al_0, ↓x_c, ↓x_il_1, ↓gr_2_0, ↓x_mm0, ↓x_mm1, ↓pi_2_1, ↓pi_2_2, ↓pi_2_3, ↓pi_2_4, ↓pi_2_5, ↓x_rt, ↓ln_1, ↓n_67, ↓s_67_0, ↓pv_i, ↓pv_r, ↓pv_0, ↓pv_l, wz_pk, wz_ti, wz_wz, vI_wz, wz_id, wz_0, List.length_cons, List.length_nil, ↓reduceIte, true_and, and_true, Int.reduceLE, Int.reduceLT, Int.reduceEq, not_true_eq_false, not_false_eq_true, false_or, or_false, true_or, or_true, ite_not, Int.reduceNeg, Int32.reduceToInt, Nat.reduceAdd, Nat.reduceLeDiff, Nat.reduceLT, Nat.reduceEqDiff, Int.reduceAdd, Int.reduceSub, Int.reduceMul, Nat.zero_le, pk_po_ne, pk_po_eq, pk_po_ix, rI, ne_eq, ↓ln_1, e1]
  rw [e2]
theorem C27 (hC : RC S M) (hn : pk M 2 1 = n) (h0 : 0 ≤ n) (h2 : n ≤ 600)
    (hq : ∀ x S' M' f', k_all n 61 0 0 (clrH S) = (0, x, S') → RC S' M' → M' 2 = M 2 → FC M M' → Q (rI 1) (mkh X s (hB s) dl t (txm M' x f')))
    (hx : ∀ k x S' M0 M', ¬ k = 0 → k_all n 61 0 0 (clrH S) = (k, x, S') → RC S' M0 → FC M M0 → FLD M0 M' k x → Q (rI 0) (mkh X s (hB s) dl t M')) :
    CL 27 [.ref 75, .ref (hB s)] (mkh X s dh dl t (txm M 0 0)) Q := by
  have key : ∀ (k : Nat) (c p : Int) (S' : St) (M' : Mem) (f : Int) (bb : Value), c + k = 60 → 0 ≤ c → 0 ≤ p → p ≤ n → k_all n (k + 1) c p S' = k_all n 61 0 0 (clrH S) → nho S' → RC S' M' → M' 2 = M 2 → FC M M' → EX 27 (sx 27 14) [.ref 75, .ref (hB s), vI c, bb] [] (mkh X s (hB s) dl t (txm M' p f)) Q := by
    intro k
    induction k with
    | zero =>
      intro c p S' M' f bb hc hc0 hp0 hp1 hk hN hC' hM2 hF
      have hc60 : c = 60 := by omega
      subst hc60
      have hn' : pk M' 2 1 = n := by unfold pk; rw [hM2]; exact hn
      have hs := sk_rng (S := S') hp1
      have hw := we_rng (S := S') hs.2
      rw [k_all] at hk
      rw [s_27_14]
      by_cases c1 : n ≤ sk S' n p
      · rw [if_pos c1] at hk
        have e := hq _ S' M' (sk S' n p) hk.symm hC' hM2 hF
        simp (disch := omega) only [↓x_al_0, ↓x_al_1, ↓pd_75_1, ↓gd_75_1, ↓c_18_hA, ↓c_18_hB, ↓x_c, ↓x_is_2, ↓x_il_2, ↓x_gt, ↓gr_75_0, ↓c_69, ↓x_eq0, ↓x_irz, ↓c_70, ↓x_ne, ↓x_go, ↓c_28, ↓c_73, ↓x_is_3, ↓x_il_3, ↓x_ne0, ↓x_inc_2, ↓n_27, ↓s_27_0, ↓s_27_32, ↓s_27_50, ↓s_27_51, ↓s_27_73, ↓s_27_74, ↓s_27_81, ↓s_27_87, ↓bk_v, ↓bk_n, ↓bk_r, ↓pv_i, ↓pv_r, ↓pv_0, ↓pv_l, wz_pk, wz_ti, wz_wz, vI_wz, wz_id, wz_0, List.length_cons, List.length_nil, ↓reduceIte, true_and, and_true, Int.reduceLE, Int.reduceLT, Int.reduceEq, not_true_eq_false, not_false_eq_true, false_or, or_false, true_or, or_true, ite_not, Int.reduceNeg, Int32.reduceToInt, Nat.reduceAdd, Nat.reduceLeDiff, Nat.reduceLT, Nat.reduceEqDiff, Int.reduceAdd, Int.reduceSub, Int.reduceMul, Nat.zero_le, pk_po_ne, pk_po_eq, pk_po_ix, rI, ne_eq, ↓C69 hC' hn' hp0 hp1 h2, c1, decide_true, bi, if_true]
        exact e
      · rw [if_neg c1] at hk
        have ss := sk_self (S := S') (n := n) (p := sk S' n p) sk_end
        have kw := fun (Q' : MOut → MHp → Prop) => C70 (Q := Q') (X := X) (s := s) (dh := hB s) (dl := dl) (t := t) (f := sk S' n p) hC' hn' (p := sk S' n p) (by omega) hs.2 h2
        simp only [ss] at kw
        simp (disch := omega) only [↓x_al_0, ↓x_al_1, ↓pd_75_1, ↓gd_75_1, ↓c_18_hA, ↓c_18_hB, ↓x_c, ↓x_is_2, ↓x_il_2, ↓x_gt, ↓gr_75_0, ↓c_69, ↓x_eq0, ↓x_irz, ↓c_70, ↓x_ne, ↓x_go, ↓c_28, ↓c_73, ↓x_is_3, ↓x_il_3, ↓x_ne0, ↓x_inc_2, ↓n_27, ↓s_27_0, ↓s_27_32, ↓s_27_50, ↓s_27_51, ↓s_27_73, ↓s_27_74, ↓s_27_81, ↓s_27_87, ↓bk_v, ↓bk_n, ↓bk_r, ↓pv_i, ↓pv_r, ↓pv_0, ↓pv_l, wz_pk, wz_ti, wz_wz, vI_wz, wz_id, wz_0, List.length_cons, List.length_nil, ↓reduceIte, true_and, and_true, Int.reduceLE, Int.reduceLT, Int.reduceEq, not_true_eq_false, not_false_eq_true, false_or, or_false, true_or, or_true, ite_not, Int.reduceNeg, Int32.reduceToInt, Nat.reduceAdd, Nat.reduceLeDiff, Nat.reduceLT, Nat.reduceEqDiff, Int.reduceAdd, Int.reduceSub, Int.reduceMul, Nat.zero_le, pk_po_ne, pk_po_eq, pk_po_ix, rI, ne_eq, ↓C69 hC' hn' hp0 hp1 h2, c1, decide_false, bi, if_false, Bool.false_eq_true, if_true, ↓kw]
        refine C28 (m := true) hC' hn' (by omega) hw.1 hw.2 h2 hN ⟨fun x S2 M2 f2 e1 e2 e3 e4 => ?_, fun k x S2 M2 hk2 e1 e2 => ?_⟩
        · exact absurd e1 kc_m
        · have e5 := kc_S hk2 e1
          simp only [decide_true, e1] at hk
          rw [if_neg hk2] at hk
          have e := hx k x S2 M' M2 hk2 hk.symm (by rw [e5]; exact hC') hF e2
          simp (disch := omega) only [↓x_al_0, ↓x_al_1, ↓pd_75_1, ↓gd_75_1, ↓c_18_hA, ↓c_18_hB, ↓x_c, ↓x_is_2, ↓x_il_2, ↓x_gt, ↓gr_75_0, ↓c_69, ↓x_eq0, ↓x_irz, ↓c_70, ↓x_ne, ↓x_go, ↓c_28, ↓c_73, ↓x_is_3, ↓x_il_3, ↓x_ne0, ↓x_inc_2, ↓n_27, ↓s_27_0, ↓s_27_32, ↓s_27_50, ↓s_27_51, ↓s_27_73, ↓s_27_74, ↓s_27_81, ↓s_27_87, ↓bk_v, ↓bk_n, ↓bk_r, ↓pv_i, ↓pv_r, ↓pv_0, ↓pv_l, wz_pk, wz_ti, wz_wz, vI_wz, wz_id, wz_0, List.length_cons, List.length_nil, ↓reduceIte, true_and, and_true, Int.reduceLE, Int.reduceLT, Int.reduceEq, not_true_eq_false, not_false_eq_true, false_or, or_false, true_or, or_true, ite_not, Int.reduceNeg, Int32.reduceToInt, Nat.reduceAdd, Nat.reduceLeDiff, Nat.reduceLT, Nat.reduceEqDiff, Int.reduceAdd, Int.reduceSub, Int.reduceMul, Nat.zero_le, pk_po_ne, pk_po_eq, pk_po_ix, rI, ne_eq]
          exact e
    | succ k ih =>
      intro c p S' M' f bb hc hc0 hp0 hp1 hk hN hC' hM2 hF
      have hc60 : ¬ c = 60 := by omega
      have hc61 : ¬ 60 < c := by omega
      have hn' : pk M' 2 1 = n := by unfold pk; rw [hM2]; exact hn
      have hs := sk_rng (S := S') hp1
      have hw := we_rng (S := S') hs.2
      rw [k_all] at hk
      rw [s_27_14]
      by_cases c1 : n ≤ sk S' n p
      · rw [if_pos c1] at hk
        have e := hq _ S' M' (sk S' n p) hk.symm hC' hM2 hF
        simp (disch := omega) only [↓x_al_0, ↓x_al_1, ↓pd_75_1, ↓gd_75_1, ↓c_18_hA, ↓c_18_hB, ↓x_c, ↓x_is_2, ↓x_il_2, ↓x_gt, ↓gr_75_0, ↓c_69, ↓x_eq0, ↓x_irz, ↓c_70, ↓x_ne, ↓x_go, ↓c_28, ↓c_73, ↓x_is_3, ↓x_il_3, ↓x_ne0, ↓x_inc_2, ↓n_27, ↓s_27_0, ↓s_27_32, ↓s_27_50, ↓s_27_51, ↓s_27_73, ↓s_27_74, ↓s_27_81, ↓s_27_87, ↓bk_v, ↓bk_n, ↓bk_r, ↓pv_i, ↓pv_r, ↓pv_0, ↓pv_l, wz_pk, wz_ti, wz_wz, vI_wz, wz_id, wz_0, List.length_cons, List.length_nil, ↓reduceIte, true_and, and_true, Int.reduceLE, Int.reduceLT, Int.reduceEq, not_true_eq_false, not_false_eq_true, false_or, or_false, true_or, or_true, ite_not, Int.reduceNeg, Int32.reduceToInt, Nat.reduceAdd, Nat.reduceLeDiff, Nat.reduceLT, Nat.reduceEqDiff, Int.reduceAdd, Int.reduceSub, Int.reduceMul, Nat.zero_le, pk_po_ne, pk_po_eq, pk_po_ix, rI, ne_eq, ↓C69 hC' hn' hp0 hp1 h2, c1, decide_true, bi, if_true, hc61, if_false]
        exact e
      · rw [if_neg c1] at hk
        have ss := sk_self (S := S') (n := n) (p := sk S' n p) sk_end
        have kw := fun (Q' : MOut → MHp → Prop) => C70 (Q := Q') (X := X) (s := s) (dh := hB s) (dl := dl) (t := t) (f := sk S' n p) hC' hn' (p := sk S' n p) (by omega) hs.2 h2
        simp only [ss] at kw
        simp (disch := omega) only [↓x_al_0, ↓x_al_1, ↓pd_75_1, ↓gd_75_1, ↓c_18_hA, ↓c_18_hB, ↓x_c, ↓x_is_2, ↓x_il_2, ↓x_gt, ↓gr_75_0, ↓c_69, ↓x_eq0, ↓x_irz, ↓c_70, ↓x_ne, ↓x_go, ↓c_28, ↓c_73, ↓x_is_3, ↓x_il_3, ↓x_ne0, ↓x_inc_2, ↓n_27, ↓s_27_0, ↓s_27_32, ↓s_27_50, ↓s_27_51, ↓s_27_73, ↓s_27_74, ↓s_27_81, ↓s_27_87, ↓bk_v, ↓bk_n, ↓bk_r, ↓pv_i, ↓pv_r, ↓pv_0, ↓pv_l, wz_pk, wz_ti, wz_wz, vI_wz, wz_id, wz_0, List.length_cons, List.length_nil, ↓reduceIte, true_and, and_true, Int.reduceLE, Int.reduceLT, Int.reduceEq, not_true_eq_false, not_false_eq_true, false_or, or_false, true_or, or_true, ite_not, Int.reduceNeg, Int32.reduceToInt, Nat.reduceAdd, Nat.reduceLeDiff, Nat.reduceLT, Nat.reduceEqDiff, Int.reduceAdd, Int.reduceSub, Int.reduceMul, Nat.zero_le, pk_po_ne, pk_po_eq, pk_po_ix, rI, ne_eq, ↓C69 hC' hn' hp0 hp1 h2, c1, decide_false, bi, if_false, Bool.false_eq_true, if_true, ↓kw, hc60, hc61]
        refine C28 (m := false) hC' hn' (by omega) hw.1 hw.2 h2 hN ⟨fun x S2 M2 f2 e1 e2 e3 e4 => ?_, fun k x S2 M2 hk2 e1 e2 => ?_⟩
        · obtain ⟨g1, g2, g3⟩ := kp_clause hw.2 hN e1
          simp only [hc60, decide_false, e1, if_true] at hk
          have hn2 : pk M2 2 1 = n := by unfold pk; rw [e3]; exact hn'
          simp (disch := omega) only [↓x_al_0, ↓x_al_1, ↓pd_75_1, ↓gd_75_1, ↓c_18_hA, ↓c_18_hB, ↓x_c, ↓x_is_2, ↓x_il_2, ↓x_gt, ↓gr_75_0, ↓c_69, ↓x_eq0, ↓x_irz, ↓c_70, ↓x_ne, ↓x_go, ↓c_28, ↓c_73, ↓x_is_3, ↓x_il_3, ↓x_ne0, ↓x_inc_2, ↓n_27, ↓s_27_0, ↓s_27_32, ↓s_27_50, ↓s_27_51, ↓s_27_73, ↓s_27_74, ↓s_27_81, ↓s_27_87, ↓bk_v, ↓bk_n, ↓bk_r, ↓pv_i, ↓pv_r, ↓pv_0, ↓pv_l, wz_pk, wz_ti, wz_wz, vI_wz, wz_id, wz_0, List.length_cons, List.length_nil, ↓reduceIte, true_and, and_true, Int.reduceLE, Int.reduceLT, Int.reduceEq, not_true_eq_false, not_false_eq_true, false_or, or_false, true_or, or_true, ite_not, Int.reduceNeg, Int32.reduceToInt, Nat.reduceAdd, Nat.reduceLeDiff, Nat.reduceLT, Nat.reduceEqDiff, Int.reduceAdd, Int.reduceSub, Int.reduceMul, Nat.zero_le, pk_po_ne, pk_po_eq, pk_po_ix, rI, ne_eq]
          refine C73 (n := n) e2 hn2 (by omega) g2.2 h2 rfl ?_ ?_
          · intro c2
            rw [if_pos c2] at hk
            have hs2 := sk_rng (S := S2) g2.2
            have ih2 := ih (c + 1) (sk S2 n x + 1) S2 M2 (sk S2 n x) (vI 1) (by omega) (by omega) (by omega) (by omega) hk g1 e2 (by rw [e3, hM2]) (hF.trans e4)
            simp (disch := omega) only [↓x_al_0, ↓x_al_1, ↓pd_75_1, ↓gd_75_1, ↓c_18_hA, ↓c_18_hB, ↓x_c, ↓x_is_2, ↓x_il_2, ↓x_gt, ↓gr_75_0, ↓c_69, ↓x_eq0, ↓x_irz, ↓c_70, ↓x_ne, ↓x_go, ↓c_28, ↓c_73, ↓x_is_3, ↓x_il_3, ↓x_ne0, ↓x_inc_2, ↓n_27, ↓s_27_0, ↓s_27_32, ↓s_27_50, ↓s_27_51, ↓s_27_73, ↓s_27_74, ↓s_27_81, ↓s_27_87, ↓bk_v, ↓bk_n, ↓bk_r, ↓pv_i, ↓pv_r, ↓pv_0, ↓pv_l, wz_pk, wz_ti, wz_wz, vI_wz, wz_id, wz_0, List.length_cons, List.length_nil, ↓reduceIte, true_and, and_true, Int.reduceLE, Int.reduceLT, Int.reduceEq, not_true_eq_false, not_false_eq_true, false_or, or_false, true_or, or_true, ite_not, Int.reduceNeg, Int32.reduceToInt, Nat.reduceAdd, Nat.reduceLeDiff, Nat.reduceLT, Nat.reduceEqDiff, Int.reduceAdd, Int.reduceSub, Int.reduceMul, Nat.zero_le, pk_po_ne, pk_po_eq, pk_po_ix, rI, ne_eq]
            exact ih2
          · intro c2 M3 hM3
            rw [if_neg c2] at hk
            have e := hx 1 (sk S2 n x) S2 M2 M3 (by decide) hk.symm e2 (hF.trans e4) hM3
            simp (disch := omega) only [↓x_al_0, ↓x_al_1, ↓pd_75_1, ↓gd_75_1, ↓c_18_hA, ↓c_18_hB, ↓x_c, ↓x_is_2, ↓x_il_2, ↓x_gt, ↓gr_75_0, ↓c_69, ↓x_eq0, ↓x_irz, ↓c_70, ↓x_ne, ↓x_go, ↓c_28, ↓c_73, ↓x_is_3, ↓x_il_3, ↓x_ne0, ↓x_inc_2, ↓n_27, ↓s_27_0, ↓s_27_32, ↓s_27_50, ↓s_27_51, ↓s_27_73, ↓s_27_74, ↓s_27_81, ↓s_27_87, ↓bk_v, ↓bk_n, ↓bk_r, ↓pv_i, ↓pv_r, ↓pv_0, ↓pv_l, wz_pk, wz_ti, wz_wz, vI_wz, wz_id, wz_0, List.length_cons, List.length_nil, ↓reduceIte, true_and, and_true, Int.reduceLE, Int.reduceLT, Int.reduceEq, not_true_eq_false, not_false_eq_true, false_or, or_false, true_or, or_true, ite_not, Int.reduceNeg, Int32.reduceToInt, Nat.reduceAdd, Nat.reduceLeDiff, Nat.reduceLT, Nat.reduceEqDiff, Int.reduceAdd, Int.reduceSub, Int.reduceMul, Nat.zero_le, pk_po_ne, pk_po_eq, pk_po_ix, rI, ne_eq]
            exact e
        · have e5 := kc_S hk2 e1
          simp only [hc60, decide_false, e1] at hk
          rw [if_neg hk2] at hk
          have e := hx k x S2 M' M2 hk2 hk.symm (by rw [e5]; exact hC') hF e2
          simp (disch := omega) only [↓x_al_0, ↓x_al_1, ↓pd_75_1, ↓gd_75_1, ↓c_18_hA, ↓c_18_hB, ↓x_c, ↓x_is_2, ↓x_il_2, ↓x_gt, ↓gr_75_0, ↓c_69, ↓x_eq0, ↓x_irz, ↓c_70, ↓x_ne, ↓x_go, ↓c_28, ↓c_73, ↓x_is_3, ↓x_il_3, ↓x_ne0, ↓x_inc_2, ↓n_27, ↓s_27_0, ↓s_27_32, ↓s_27_50, ↓s_27_51, ↓s_27_73, ↓s_27_74, ↓s_27_81, ↓s_27_87, ↓bk_v, ↓bk_n, ↓bk_r, ↓pv_i, ↓pv_r, ↓pv_0, ↓pv_l, wz_pk, wz_ti, wz_wz, vI_wz, wz_id, wz_0, List.length_cons, List.length_nil, ↓reduceIte, true_and, and_true, Int.reduceLE, Int.reduceLT, Int.reduceEq, not_true_eq_false, not_false_eq_true, false_or, or_false, true_or, or_true, ite_not, Int.reduceNeg, Int32.reduceToInt, Nat.reduceAdd, Nat.reduceLeDiff, Nat.reduceLT, Nat.reduceEqDiff, Int.reduceAdd, Int.reduceSub, Int.reduceMul, Nat.zero_le, pk_po_ne, pk_po_eq, pk_po_ix, rI, ne_eq]
          exact e
  have hC2 := (((((((hC.putz (a := 33) (i := 0) (x := 0) (by decide) rfl).putz (a := 33) (i := 1) (x := 0) (by decide) rfl).putz (a := 33) (i := 2) (x := 0) (by decide) rfl).fil (a := 40) (f := 0) (n := 4) (x := 10000) (by decide) rfl).fil (a := 57) (f := 0) (n := 12) (x := 10000) (by decide) rfl).fil (a := 58) (f := 0) (n := 12) (x := 10000) (by decide) rfl).fil (a := 62) (f := 0) (n := 4) (x := 0) (by decide) rfl)
  have k0 := key 60 0 0 (clrH S) _ 0 .null (by decide) (by decide) (by decide) h0 rfl nho_clr hC2 (by
    funext j
    unfold flm
    simp only [po]
    simp) (((((((FC.rfl.pw (by decide)).pw (by decide)).pw (by decide)).fil (by decide)).fil (by decide)).fil (by decide)).fil (by decide))
  simp only [↓x_al_0, ↓x_al_1, ↓pd_75_1, ↓gd_75_1, ↓c_18_hA, ↓c_18_hB, ↓x_c, ↓x_is_2, ↓x_il_2, ↓x_gt, ↓gr_75_0, ↓c_69, ↓x_eq0, ↓x_irz, ↓c_70, ↓x_ne, ↓x_go, ↓c_28, ↓c_73, ↓x_is_3, ↓x_il_3, ↓x_ne0, ↓x_inc_2, ↓n_27, ↓s_27_0, ↓s_27_32, ↓s_27_50, ↓s_27_51, ↓s_27_73, ↓s_27_74, ↓s_27_81, ↓s_27_87, ↓bk_v, ↓bk_n, ↓bk_r, ↓pv_i, ↓pv_r, ↓pv_0, ↓pv_l, wz_pk, wz_ti, wz_wz, vI_wz, wz_id, wz_0, List.length_cons, List.length_nil, ↓reduceIte, true_and, and_true, Int.reduceLE, Int.reduceLT, Int.reduceEq, not_true_eq_false, not_false_eq_true, false_or, or_false, true_or, or_true, ite_not, Int.reduceNeg, Int32.reduceToInt, Nat.reduceAdd, Nat.reduceLeDiff, Nat.reduceLT, Nat.reduceEqDiff, Int.reduceAdd, Int.reduceSub, Int.reduceMul, Nat.zero_le, pk_po_ne, pk_po_eq, pk_po_ix, rI, ne_eq, ↓C18, tx_po, tx_fl]
  exact k0
end C49
