theorem lb_test {n : Int} : ∀ (m : Nat) (j p : Int) (S : St) (W : Int → Int) (k : Int) (x j' : Int) (S' : St) (W' : Int → Int) (k' : Int), lbn S W k p n → l_test n m j p S W k = (0, x, j', S', W', k') → (p < x ∧ x ≤ n) ∧ (0 ≤ S' 69 1 ∧ S' 69 1 ≤ x) ∧ lag S S' := by
  intro m
  induction m with
  | zero => intro j p S W k x j' S' W' k' _ h; simp [l_test] at h
  | succ m ih =>
    intro j p S W k x j' S' W' k' hb h
    rw [l_test] at h
    have hst : ∀ x2 j2 S2 W2 k2, (if j = 0 then l_ahead S W k n p else l_join S W k n p) = (0, x2, j2, S2, W2, k2) → lbn S2 W2 k2 x2 n ∧ p < x2 ∧ lag S S2 := by
      intro x2 j2 S2 W2 k2 er
      split at er
      · obtain ⟨a, b, c, d⟩ := lb_ahead hb er; exact ⟨a, b, d⟩
      · obtain ⟨a, b, c, d⟩ := lb_join hb er; exact ⟨a, b, d⟩
    generalize (if j = 0 then l_ahead S W k n p else l_join S W k n p) = r at *
    obtain ⟨r1, r2, r3, r4, r5, r6⟩ := r
    simp only at h
    split at h
    · rename_i hc
      rw [hc.1] at hst
      obtain ⟨a, b, c⟩ := hst _ _ _ _ _ rfl
      obtain ⟨d, e, f⟩ := ih _ _ _ _ _ _ _ _ _ _ a h
      exact ⟨by omega, e, c.trans f⟩
    · simp only [Prod.mk.injEq] at h
      obtain ⟨rfl, rfl, rfl, rfl, rfl, rfl⟩ := h
      obtain ⟨a, b, c⟩ := hst _ _ _ _ _ rfl
      exact ⟨⟨b, a.2.2.2.1⟩, ⟨a.1, by have := a.2.1; have := a.2.2.1; omega⟩, c⟩
def clrL (S : St) : St := su (su S 69 0 0) 69 1 0
def swSL (S : St) : St := fun a => if 63 ≤ a ∧ a < 69 then S (a + 6) else if 69 ≤ a ∧ a < 75 then S (a - 6) else S a
def lwR (S : St) (n : Int) : K3 := l_all n 11 0 0 (clrL (su (su S 0 1 0) 2 5 (-1)))
def o_rules (S : St) (n : Int) : R3 := if 0 ≤ n ∧ n ≤ min (S 0 1) 300 then (if (lwR S n).1 = 0 then (0, (lwR S n).2.2 69 0, swSL (lwR S n).2.2) else (0, (lwR S n).1 - 10, su (lwR S n).2.2 2 5 (lwR S n).2.1)) else (2, 0, rf S 1)
section C54
variable {Q : MOut → MHp → Prop} {X : Nat × (Nat → Int32)} {s : Bool × Bool} {dh dl t : Nat} {M : Mem} {S : St} {p f n k : Int} {W : Int → Int}
theorem C47 (hC : RC S M) (hn : pk M 2 1 = n) (h0 : 0 ≤ n) (h2 : n ≤ 300)
    (hq : ∀ x S' M', l_all n 11 0 0 (clrL S) = (0, x, S') → RC S' M' → FC M M' → Q (rI 1) (mkh X s dh (lB s) t M'))
    (hx : ∀ k x S' M', ¬ k = 0 → l_all n 11 0 0 (clrL S) = (k, x, S') → FX S' M M' k x → Q (rI 0) (mkh X s dh (lB s) t M')) :
    CL 47 [.ref 76, .ref (lB s)] (mkh X s dh dl t (txm M 0 0)) Q := by
  have key : ∀ (m : Nat) (c p : Int) (S' : St) (M' : Mem), c + m = 10 → 0 ≤ c → 0 ≤ p → p ≤ n → S' 69 0 = c → 0 ≤ S' 69 1 → S' 69 1 ≤ p → l_all n (m + 1) c p S' = l_all n 11 0 0 (clrL S) → RC S' M' → pk M' 2 1 = n → pk M' 2 2 = p → FC M M' → EX 47 (sx 47 14) [.ref 76, .ref (lB s), vI c] [] (mkh X s dh (lB s) t M') Q := by
    intro m
    induction m with
    | zero =>
      intro c p S' M' hc hc0 hp0 hp1 hr0 hr1 hr2 hk hC' hn' hp2 hF
      have hc10 : c = 10 := by omega
      subst hc10
      have hs := sk_rng (S := S') hp1
      have hw := we_rng (S := S') hs.2
      have ss := sk_self (S := S') (n := n) (p := sk S' n p) sk_end
      rw [l_all] at hk
      generalize hq0 : sk S' n p = q at *
      generalize hee : we S' n q = e at *
      rw [s_47_14]
      rw [← txm_self hp2]
      have e69 := fun (Q' : MOut → MHp → Prop) => C69 (Q := Q') (X := X) (s := s) (dh := dh) (dl := lB s) (t := t) (f := pk M' 2 3) hC' hn' hp0 hp1 (by omega : n ≤ 600)
      have e70 := fun (Q' : MOut → MHp → Prop) => C70 (Q := Q') (X := X) (s := s) (dh := dh) (dl := lB s) (t := t) (f := q) hC' hn' (p := q) (by omega) hs.2 (by omega : n ≤ 600)
      have i9 := fun (Q' : MOut → MHp → Prop) => C71 (Q := Q') (X := X) (s := s) (dh := dh) (dl := lB s) (t := t) (j := 9) (q := q) (e := e) hC' (by omega) hw.1 (by omega) (by decide) (by decide) (by decide)
      rw [ss, hee] at e70
      rw [hq0] at e69
      by_cases c1 : n ≤ q
      · rw [if_pos c1] at hk
        have e1 := hq _ S' (txm M' q q) hk.symm hC'.tx (hF.txm)
        simp (disch := omega) only [↓x_al_0, ↓x_al_1, ↓pd_76_1, ↓gd_76_1, ↓c_40_lB, ↓x_c, ↓x_is_2, ↓x_il_2, ↓x_gt, ↓gr_76_0, ↓c_69, ↓x_eq0, ↓x_irz, ↓c_70, ↓x_str, ↓c_71, ↓x_ne0, ↓c_68, ↓x_ne, ↓c_48, ↓c_42_lB, ↓x_inc_2, ↓x_go, ↓n_47, ↓s_47_0, ↓s_47_32, ↓s_47_60, ↓s_47_75, ↓s_47_84, ↓s_47_97, ↓bk_v, ↓bk_n, ↓bk_r, ↓pv_i, ↓pv_r, ↓pv_0, ↓pv_l, wz_pk, wz_ti, wz_wz, vI_wz, wz_id, wz_0, List.length_cons, List.length_nil, ↓reduceIte, true_and, and_true, Int.reduceLE, Int.reduceLT, Int.reduceEq, not_true_eq_false, not_false_eq_true, false_or, or_false, true_or, or_true, ite_not, Int.reduceNeg, Int32.reduceToInt, Nat.reduceAdd, Nat.reduceLeDiff, Nat.reduceLT, Nat.reduceEqDiff, Int.reduceAdd, Int.reduceSub, Int.reduceMul, Nat.zero_le, pk_po_ne, pk_po_eq, pk_po_ix, rI, ne_eq, ↓e69, c1, decide_true, bi, if_true]
        exact e1
      · rw [if_neg c1] at hk
        by_cases c2 : isW S' q e (P_txt 9) = true
        · rw [if_pos c2, if_pos rfl] at hk
          simp (disch := omega) only [↓x_al_0, ↓x_al_1, ↓pd_76_1, ↓gd_76_1, ↓c_40_lB, ↓x_c, ↓x_is_2, ↓x_il_2, ↓x_gt, ↓gr_76_0, ↓c_69, ↓x_eq0, ↓x_irz, ↓c_70, ↓x_str, ↓c_71, ↓x_ne0, ↓c_68, ↓x_ne, ↓c_48, ↓c_42_lB, ↓x_inc_2, ↓x_go, ↓n_47, ↓s_47_0, ↓s_47_32, ↓s_47_60, ↓s_47_75, ↓s_47_84, ↓s_47_97, ↓bk_v, ↓bk_n, ↓bk_r, ↓pv_i, ↓pv_r, ↓pv_0, ↓pv_l, wz_pk, wz_ti, wz_wz, vI_wz, wz_id, wz_0, List.length_cons, List.length_nil, ↓reduceIte, true_and, and_true, Int.reduceLE, Int.reduceLT, Int.reduceEq, not_true_eq_false, not_false_eq_true, false_or, or_false, true_or, or_true, ite_not, Int.reduceNeg, Int32.reduceToInt, Nat.reduceAdd, Nat.reduceLeDiff, Nat.reduceLT, Nat.reduceEqDiff, Int.reduceAdd, Int.reduceSub, Int.reduceMul, Nat.zero_le, pk_po_ne, pk_po_eq, pk_po_ix, rI, ne_eq, ↓e69, c1, decide_false, bi, if_true, if_false, Bool.false_eq_true, ↓e70, ↓i9, c2]
          refine C68 rfl (wz_id (by omega) (by omega)) ?_
          intro M2 hM2
          have e1 := hx 3 q S' M2 (by decide) hk.symm ⟨M', hC', hF, hM2⟩
          simp (disch := omega) only [↓x_al_0, ↓x_al_1, ↓pd_76_1, ↓gd_76_1, ↓c_40_lB, ↓x_c, ↓x_is_2, ↓x_il_2, ↓x_gt, ↓gr_76_0, ↓c_69, ↓x_eq0, ↓x_irz, ↓c_70, ↓x_str, ↓c_71, ↓x_ne0, ↓c_68, ↓x_ne, ↓c_48, ↓c_42_lB, ↓x_inc_2, ↓x_go, ↓n_47, ↓s_47_0, ↓s_47_32, ↓s_47_60, ↓s_47_75, ↓s_47_84, ↓s_47_97, ↓bk_v, ↓bk_n, ↓bk_r, ↓pv_i, ↓pv_r, ↓pv_0, ↓pv_l, wz_pk, wz_ti, wz_wz, vI_wz, wz_id, wz_0, List.length_cons, List.length_nil, ↓reduceIte, true_and, and_true, Int.reduceLE, Int.reduceLT, Int.reduceEq, not_true_eq_false, not_false_eq_true, false_or, or_false, true_or, or_true, ite_not, Int.reduceNeg, Int32.reduceToInt, Nat.reduceAdd, Nat.reduceLeDiff, Nat.reduceLT, Nat.reduceEqDiff, Int.reduceAdd, Int.reduceSub, Int.reduceMul, Nat.zero_le, pk_po_ne, pk_po_eq, pk_po_ix, rI, ne_eq]
          exact e1
        · rw [if_neg c2] at hk
          have c2' : isW S' q e (P_txt 9) = false := by simpa using c2
          simp (disch := omega) only [↓x_al_0, ↓x_al_1, ↓pd_76_1, ↓gd_76_1, ↓c_40_lB, ↓x_c, ↓x_is_2, ↓x_il_2, ↓x_gt, ↓gr_76_0, ↓c_69, ↓x_eq0, ↓x_irz, ↓c_70, ↓x_str, ↓c_71, ↓x_ne0, ↓c_68, ↓x_ne, ↓c_48, ↓c_42_lB, ↓x_inc_2, ↓x_go, ↓n_47, ↓s_47_0, ↓s_47_32, ↓s_47_60, ↓s_47_75, ↓s_47_84, ↓s_47_97, ↓bk_v, ↓bk_n, ↓bk_r, ↓pv_i, ↓pv_r, ↓pv_0, ↓pv_l, wz_pk, wz_ti, wz_wz, vI_wz, wz_id, wz_0, List.length_cons, List.length_nil, ↓reduceIte, true_and, and_true, Int.reduceLE, Int.reduceLT, Int.reduceEq, not_true_eq_false, not_false_eq_true, false_or, or_false, true_or, or_true, ite_not, Int.reduceNeg, Int32.reduceToInt, Nat.reduceAdd, Nat.reduceLeDiff, Nat.reduceLT, Nat.reduceEqDiff, Int.reduceAdd, Int.reduceSub, Int.reduceMul, Nat.zero_le, pk_po_ne, pk_po_eq, pk_po_ix, rI, ne_eq, ↓e69, c1, decide_false, bi, if_true, if_false, Bool.false_eq_true, ↓e70, ↓i9, c2']
          refine C68 rfl (wz_id (by omega) (by omega)) ?_
          intro M2 hM2
          have e1 := hx 1 q S' M2 (by decide) hk.symm ⟨M', hC', hF, hM2⟩
          simp (disch := omega) only [↓x_al_0, ↓x_al_1, ↓pd_76_1, ↓gd_76_1, ↓c_40_lB, ↓x_c, ↓x_is_2, ↓x_il_2, ↓x_gt, ↓gr_76_0, ↓c_69, ↓x_eq0, ↓x_irz, ↓c_70, ↓x_str, ↓c_71, ↓x_ne0, ↓c_68, ↓x_ne, ↓c_48, ↓c_42_lB, ↓x_inc_2, ↓x_go, ↓n_47, ↓s_47_0, ↓s_47_32, ↓s_47_60, ↓s_47_75, ↓s_47_84, ↓s_47_97, ↓bk_v, ↓bk_n, ↓bk_r, ↓pv_i, ↓pv_r, ↓pv_0, ↓pv_l, wz_pk, wz_ti, wz_wz, vI_wz, wz_id, wz_0, List.length_cons, List.length_nil, ↓reduceIte, true_and, and_true, Int.reduceLE, Int.reduceLT, Int.reduceEq, not_true_eq_false, not_false_eq_true, false_or, or_false, true_or, or_true, ite_not, Int.reduceNeg, Int32.reduceToInt, Nat.reduceAdd, Nat.reduceLeDiff, Nat.reduceLT, Nat.reduceEqDiff, Int.reduceAdd, Int.reduceSub, Int.reduceMul, Nat.zero_le, pk_po_ne, pk_po_eq, pk_po_ix, rI, ne_eq]
          exact e1
    | succ m ih =>
      intro c p S' M' hc hc0 hp0 hp1 hr0 hr1 hr2 hk hC' hn' hp2 hF
      have hc10 : ¬ c = 10 := by omega
      have hc11 : ¬ 10 < c := by omega
      have hs := sk_rng (S := S') hp1
      have hw := we_rng (S := S') hs.2
      have ss := sk_self (S := S') (n := n) (p := sk S' n p) sk_end
      rw [l_all] at hk
      generalize hq0 : sk S' n p = q at *
      generalize hee : we S' n q = e at *
      rw [s_47_14]
      rw [← txm_self hp2]
      have e69 := fun (Q' : MOut → MHp → Prop) => C69 (Q := Q') (X := X) (s := s) (dh := dh) (dl := lB s) (t := t) (f := pk M' 2 3) hC' hn' hp0 hp1 (by omega : n ≤ 600)
      have e70 := fun (Q' : MOut → MHp → Prop) => C70 (Q := Q') (X := X) (s := s) (dh := dh) (dl := lB s) (t := t) (f := q) hC' hn' (p := q) (by omega) hs.2 (by omega : n ≤ 600)
      have i9 := fun (Q' : MOut → MHp → Prop) => C71 (Q := Q') (X := X) (s := s) (dh := dh) (dl := lB s) (t := t) (j := 9) (q := q) (e := e) hC' (by omega) hw.1 (by omega) (by decide) (by decide) (by decide)
      rw [ss, hee] at e70
      rw [hq0] at e69
      by_cases c1 : n ≤ q
      · rw [if_pos c1] at hk
        have e1 := hq _ S' (txm M' q q) hk.symm hC'.tx (hF.txm)
        simp (disch := omega) only [↓x_al_0, ↓x_al_1, ↓pd_76_1, ↓gd_76_1, ↓c_40_lB, ↓x_c, ↓x_is_2, ↓x_il_2, ↓x_gt, ↓gr_76_0, ↓c_69, ↓x_eq0, ↓x_irz, ↓c_70, ↓x_str, ↓c_71, ↓x_ne0, ↓c_68, ↓x_ne, ↓c_48, ↓c_42_lB, ↓x_inc_2, ↓x_go, ↓n_47, ↓s_47_0, ↓s_47_32, ↓s_47_60, ↓s_47_75, ↓s_47_84, ↓s_47_97, ↓bk_v, ↓bk_n, ↓bk_r, ↓pv_i, ↓pv_r, ↓pv_0, ↓pv_l, wz_pk, wz_ti, wz_wz, vI_wz, wz_id, wz_0, List.length_cons, List.length_nil, ↓reduceIte, true_and, and_true, Int.reduceLE, Int.reduceLT, Int.reduceEq, not_true_eq_false, not_false_eq_true, false_or, or_false, true_or, or_true, ite_not, Int.reduceNeg, Int32.reduceToInt, Nat.reduceAdd, Nat.reduceLeDiff, Nat.reduceLT, Nat.reduceEqDiff, Int.reduceAdd, Int.reduceSub, Int.reduceMul, Nat.zero_le, pk_po_ne, pk_po_eq, pk_po_ix, rI, ne_eq, ↓e69, c1, decide_true, bi, if_true, hc11, if_false]
        exact e1
      · rw [if_neg c1] at hk
        by_cases c2 : isW S' q e (P_txt 9) = true
        · rw [if_pos c2, if_neg hc10] at hk
          have hlen := isW_len c2
          have : (P_txt 9).length = 3 := rfl
          simp (disch := omega) only [↓x_al_0, ↓x_al_1, ↓pd_76_1, ↓gd_76_1, ↓c_40_lB, ↓x_c, ↓x_is_2, ↓x_il_2, ↓x_gt, ↓gr_76_0, ↓c_69, ↓x_eq0, ↓x_irz, ↓c_70, ↓x_str, ↓c_71, ↓x_ne0, ↓c_68, ↓x_ne, ↓c_48, ↓c_42_lB, ↓x_inc_2, ↓x_go, ↓n_47, ↓s_47_0, ↓s_47_32, ↓s_47_60, ↓s_47_75, ↓s_47_84, ↓s_47_97, ↓bk_v, ↓bk_n, ↓bk_r, ↓pv_i, ↓pv_r, ↓pv_0, ↓pv_l, wz_pk, wz_ti, wz_wz, vI_wz, wz_id, wz_0, List.length_cons, List.length_nil, ↓reduceIte, true_and, and_true, Int.reduceLE, Int.reduceLT, Int.reduceEq, not_true_eq_false, not_false_eq_true, false_or, or_false, true_or, or_true, ite_not, Int.reduceNeg, Int32.reduceToInt, Nat.reduceAdd, Nat.reduceLeDiff, Nat.reduceLT, Nat.reduceEqDiff, Int.reduceAdd, Int.reduceSub, Int.reduceMul, Nat.zero_le, pk_po_ne, pk_po_eq, pk_po_ix, rI, ne_eq, ↓e69, c1, decide_false, bi, if_true, if_false, Bool.false_eq_true, ↓e70, ↓i9, c2, hc10, hc11]
          refine C48 (n := n) (p := e) hC'.tx (by rw [tx_1]; exact hn') (by rw [tx_2]; exact wz_id (by omega) (by omega)) ⟨hr1, by omega⟩ hw.2 h2 ?_ ?_
          · intro x j S2 W2 k2 M2 hr hC2 g1 g2 hF2
            obtain ⟨v1, v2, v3⟩ := lb_test _ _ _ _ _ _ _ _ _ _ _ ⟨hr1, by omega, by omega, hw.2, fun j a b => by omega⟩ hr
            rw [hr] at hk
            simp only [if_true] at hk
            have r0 : S2 69 0 = c := by rw [v3.2.2]; exact hr0
            have ih2 := ih (c + 1) x (endR S2) (po (po M2 73 (S2 69 0) (S2 69 1)) 69 0 (S2 69 0 + 1)) (by omega) (by omega) (by omega) v1.2 (by simp [endR, su]; omega) (by simp [endR, su]; omega) (by simp [endR, su]; omega) hk ((hC2.putz (by decide) (hC2.wzz 69 rfl 1)).putz (by decide) (wz_id (by omega) (by omega))) (by rw [pk_po_ne (by decide), pk_po_ne (by decide)]; exact g1) (by rw [pk_po_ne (by decide), pk_po_ne (by decide)]; exact g2) ((((hF.txm).trans hF2).pw (by decide)).pw (by decide))
            simp (disch := omega) only [↓x_al_0, ↓x_al_1, ↓pd_76_1, ↓gd_76_1, ↓c_40_lB, ↓x_c, ↓x_is_2, ↓x_il_2, ↓x_gt, ↓gr_76_0, ↓c_69, ↓x_eq0, ↓x_irz, ↓c_70, ↓x_str, ↓c_71, ↓x_ne0, ↓c_68, ↓x_ne, ↓c_48, ↓c_42_lB, ↓x_inc_2, ↓x_go, ↓n_47, ↓s_47_0, ↓s_47_32, ↓s_47_60, ↓s_47_75, ↓s_47_84, ↓s_47_97, ↓bk_v, ↓bk_n, ↓bk_r, ↓pv_i, ↓pv_r, ↓pv_0, ↓pv_l, wz_pk, wz_ti, wz_wz, vI_wz, wz_id, wz_0, List.length_cons, List.length_nil, ↓reduceIte, true_and, and_true, Int.reduceLE, Int.reduceLT, Int.reduceEq, not_true_eq_false, not_false_eq_true, false_or, or_false, true_or, or_true, ite_not, Int.reduceNeg, Int32.reduceToInt, Nat.reduceAdd, Nat.reduceLeDiff, Nat.reduceLT, Nat.reduceEqDiff, Int.reduceAdd, Int.reduceSub, Int.reduceMul, Nat.zero_le, pk_po_ne, pk_po_eq, pk_po_ix, rI, ne_eq, ↓C42 hC2 (show 0 ≤ S2 69 0 ∧ S2 69 0 < 10 by omega)]
            exact ih2
          · intro i x j S2 W2 k2 M2 hi hr hX
            obtain ⟨M0, x1, x2, x3⟩ := hX
            rw [hr] at hk
            simp only [if_neg hi] at hk
            have e1 := hx i x S2 M2 hi hk.symm ⟨M0, x1, (hF.txm).trans x2, x3⟩
            simp (disch := omega) only [↓x_al_0, ↓x_al_1, ↓pd_76_1, ↓gd_76_1, ↓c_40_lB, ↓x_c, ↓x_is_2, ↓x_il_2, ↓x_gt, ↓gr_76_0, ↓c_69, ↓x_eq0, ↓x_irz, ↓c_70, ↓x_str, ↓c_71, ↓x_ne0, ↓c_68, ↓x_ne, ↓c_48, ↓c_42_lB, ↓x_inc_2, ↓x_go, ↓n_47, ↓s_47_0, ↓s_47_32, ↓s_47_60, ↓s_47_75, ↓s_47_84, ↓s_47_97, ↓bk_v, ↓bk_n, ↓bk_r, ↓pv_i, ↓pv_r, ↓pv_0, ↓pv_l, wz_pk, wz_ti, wz_wz, vI_wz, wz_id, wz_0, List.length_cons, List.length_nil, ↓reduceIte, true_and, and_true, Int.reduceLE, Int.reduceLT, Int.reduceEq, not_true_eq_false, not_false_eq_true, false_or, or_false, true_or, or_true, ite_not, Int.reduceNeg, Int32.reduceToInt, Nat.reduceAdd, Nat.reduceLeDiff, Nat.reduceLT, Nat.reduceEqDiff, Int.reduceAdd, Int.reduceSub, Int.reduceMul, Nat.zero_le, pk_po_ne, pk_po_eq, pk_po_ix, rI, ne_eq]
            exact e1
        · rw [if_neg c2] at hk
          have c2' : isW S' q e (P_txt 9) = false := by simpa using c2
          simp (disch := omega) only [↓x_al_0, ↓x_al_1, ↓pd_76_1, ↓gd_76_1, ↓c_40_lB, ↓x_c, ↓x_is_2, ↓x_il_2, ↓x_gt, ↓gr_76_0, ↓c_69, ↓x_eq0, ↓x_irz, ↓c_70, ↓x_str, ↓c_71, ↓x_ne0, ↓c_68, ↓x_ne, ↓c_48, ↓c_42_lB, ↓x_inc_2, ↓x_go, ↓n_47, ↓s_47_0, ↓s_47_32, ↓s_47_60, ↓s_47_75, ↓s_47_84, ↓s_47_97, ↓bk_v, ↓bk_n, ↓bk_r, ↓pv_i, ↓pv_r, ↓pv_0, ↓pv_l, wz_pk, wz_ti, wz_wz, vI_wz, wz_id, wz_0, List.length_cons, List.length_nil, ↓reduceIte, true_and, and_true, Int.reduceLE, Int.reduceLT, Int.reduceEq, not_true_eq_false, not_false_eq_true, false_or, or_false, true_or, or_true, ite_not, Int.reduceNeg, Int32.reduceToInt, Nat.reduceAdd, Nat.reduceLeDiff, Nat.reduceLT, Nat.reduceEqDiff, Int.reduceAdd, Int.reduceSub, Int.reduceMul, Nat.zero_le, pk_po_ne, pk_po_eq, pk_po_ix, rI, ne_eq, ↓e69, c1, decide_false, bi, if_true, if_false, Bool.false_eq_true, ↓e70, ↓i9, c2', hc11]
          refine C68 rfl (wz_id (by omega) (by omega)) ?_
          intro M2 hM2
          have e1 := hx 1 q S' M2 (by decide) hk.symm ⟨M', hC', hF, hM2⟩
          simp (disch := omega) only [↓x_al_0, ↓x_al_1, ↓pd_76_1, ↓gd_76_1, ↓c_40_lB, ↓x_c, ↓x_is_2, ↓x_il_2, ↓x_gt, ↓gr_76_0, ↓c_69, ↓x_eq0, ↓x_irz, ↓c_70, ↓x_str, ↓c_71, ↓x_ne0, ↓c_68, ↓x_ne, ↓c_48, ↓c_42_lB, ↓x_inc_2, ↓x_go, ↓n_47, ↓s_47_0, ↓s_47_32, ↓s_47_60, ↓s_47_75, ↓s_47_84, ↓s_47_97, ↓bk_v, ↓bk_n, ↓bk_r, ↓pv_i, ↓pv_r, ↓pv_0, ↓pv_l, wz_pk, wz_ti, wz_wz, vI_wz, wz_id, wz_0, List.length_cons, List.length_nil, ↓reduceIte, true_and, and_true, Int.reduceLE, Int.reduceLT, Int.reduceEq, not_true_eq_false, not_false_eq_true, false_or, or_false, true_or, or_true, ite_not, Int.reduceNeg, Int32.reduceToInt, Nat.reduceAdd, Nat.reduceLeDiff, Nat.reduceLT, Nat.reduceEqDiff, Int.reduceAdd, Int.reduceSub, Int.reduceMul, Nat.zero_le, pk_po_ne, pk_po_eq, pk_po_ix, rI, ne_eq]
          exact e1
  have hC2 := (hC.putz (a := 69) (i := 0) (x := 0) (by decide) rfl).putz (a := 69) (i := 1) (x := 0) (by decide) rfl
  have k0 := key 10 0 0 (clrL S) (txm (po (po M 69 0 0) 69 1 0) 0 0) (by decide) (by decide) (by decide) h0 (by simp [clrL, su]) (by simp [clrL, su]) (by simp [clrL, su]) rfl hC2.tx (by rw [tx_1, pk_po_ne (by decide), pk_po_ne (by decide)]; exact hn) (by rw [tx_2]; rfl) (((FC.rfl.pw (by decide)).pw (by decide)).txm)
  simp only [↓x_al_0, ↓x_al_1, ↓pd_76_1, ↓gd_76_1, ↓c_40_lB, ↓x_c, ↓x_is_2, ↓x_il_2, ↓x_gt, ↓gr_76_0, ↓c_69, ↓x_eq0, ↓x_irz, ↓c_70, ↓x_str, ↓c_71, ↓x_ne0, ↓c_68, ↓x_ne, ↓c_48, ↓c_42_lB, ↓x_inc_2, ↓x_go, ↓n_47, ↓s_47_0, ↓s_47_32, ↓s_47_60, ↓s_47_75, ↓s_47_84, ↓s_47_97, ↓bk_v, ↓bk_n, ↓bk_r, ↓pv_i, ↓pv_r, ↓pv_0, ↓pv_l, wz_pk, wz_ti, wz_wz, vI_wz, wz_id, wz_0, List.length_cons, List.length_nil, ↓reduceIte, true_and, and_true, Int.reduceLE, Int.reduceLT, Int.reduceEq, not_true_eq_false, not_false_eq_true, false_or, or_false, true_or, or_true, ite_not, Int.reduceNeg, Int32.reduceToInt, Nat.reduceAdd, Nat.reduceLeDiff, Nat.reduceLT, Nat.reduceEqDiff, Int.reduceAdd, Int.reduceSub, Int.reduceMul, Nat.zero_le, pk_po_ne, pk_po_eq, pk_po_ix, rI, ne_eq, ↓C40, tx_po]
  exact k0
theorem RC.swl (h : RC S M) : RC (swSL S) (swL M) := by
  refine ⟨fun a ha i => ?_, ?_⟩
  · show ((if 63 ≤ a ∧ a < 69 then M (a + 6) else if 69 ≤ a ∧ a < 75 then M (a - 6) else M a) i).toInt = (if 63 ≤ a ∧ a < 69 then S (a + 6) else if 69 ≤ a ∧ a < 75 then S (a - 6) else S a) i
    simp only [cst, Bool.or_eq_true, Bool.and_eq_true, decide_eq_true_eq] at ha
    by_cases h1 : 63 ≤ a ∧ a < 69
    · rw [if_pos h1, if_pos h1]
      exact h.1 (a + 6) (by simp [cst]; omega) i
    · rw [if_neg h1, if_neg h1]
      by_cases h2 : 69 ≤ a ∧ a < 75
      · rw [if_pos h2, if_pos h2]
        exact h.1 (a - 6) (by simp [cst]; omega) i
      · rw [if_neg h2, if_neg h2]
        exact h.1 a (by simp [cst]; omega) i
  · unfold swSL swL pk
    exact h.2
theorem FC.swl {M' : Mem} (h : FC M M') : FC M (swL M') := fun a ha ha2 => by
  unfold swL
  rw [if_neg (by omega), if_neg (by omega)]
  exact h a ha ha2
theorem K79 (hC : RC S M) (hb : 0 ≤ S 0 1 ∧ S 0 1 ≤ 600) (hn : wz n = n) (hP : PG X t M Q (o_rules S n)) : CL 79 [.ref 0, vI n] (mkh X s dh dl t M) Q := by
  simp only [↓x_al_0, ↓x_il_1, ↓x_c, ↓gi_0_1, ↓x_mm0, ↓c_110, ↓pi_0_1, ↓gr_0_2, ↓c_67, ↓gr_0_8, ↓gd_0_6, ↓c_47, ↓x_ne0, ↓gi_2_4, ↓x_isub, ↓x_ir, ↓gd_0_5, ↓x_as_2, ↓x_al_2, ↓gi_lA_0, ↓gi_lB_0, ↓n_79, ↓s_79_0, ↓s_79_54, ↓bk_v, ↓bk_n, ↓bk_r, ↓be_79, ↓pv_i, ↓pv_r, ↓pv_0, ↓pv_l, wz_pk, wz_ti, wz_wz, vI_wz, wz_id, wz_0, List.length_cons, List.length_nil, ↓reduceIte, true_and, and_true, Int.reduceLE, Int.reduceLT, Int.reduceEq, not_true_eq_false, not_false_eq_true, false_or, or_false, true_or, or_true, ite_not, Int.reduceNeg, Int32.reduceToInt, Nat.reduceAdd, Nat.reduceLeDiff, Nat.reduceLT, Nat.reduceEqDiff, Int.reduceAdd, Int.reduceSub, Int.reduceMul, Nat.zero_le, pk_po_ne, pk_po_eq, pk_po_ix, rI, ne_eq, hC.at 0 rfl, hC.wzz 0 rfl]
  rw [C110 hC]
  have wm : wz (min (S 0 1) 300) = min (S 0 1) 300 := wz_id (by omega) (by omega)
  simp only [hn, wm, wz_0]
  by_cases h1 : 0 ≤ n ∧ n ≤ min (S 0 1) 300
  · rw [if_pos h1]
    have hC1 := (hC.putz (a := 0) (i := 1) (x := 0) (by decide) rfl).bgn (n := n)
    have hn1 : pk (po (po (po (po M 0 1 0) 2 1 n) 2 4 0) 2 5 (-1)) 2 1 = n := by
      rw [pk_po_ix (by decide), pk_po_ix (by decide), pk_po_eq]
      exact hn
    have hF1 : FC M (po (po (po (po M 0 1 0) 2 1 n) 2 4 0) 2 5 (-1)) := (((FC.rfl.pw (by decide)).pw (by decide)).pw (by decide)).pw (by decide)
    simp only [↓x_al_0, ↓x_il_1, ↓x_c, ↓gi_0_1, ↓x_mm0, ↓c_110, ↓pi_0_1, ↓gr_0_2, ↓c_67, ↓gr_0_8, ↓gd_0_6, ↓c_47, ↓x_ne0, ↓gi_2_4, ↓x_isub, ↓x_ir, ↓gd_0_5, ↓x_as_2, ↓x_al_2, ↓gi_lA_0, ↓gi_lB_0, ↓n_79, ↓s_79_0, ↓s_79_54, ↓bk_v, ↓bk_n, ↓bk_r, ↓be_79, ↓pv_i, ↓pv_r, ↓pv_0, ↓pv_l, wz_pk, wz_ti, wz_wz, vI_wz, wz_id, wz_0, List.length_cons, List.length_nil, ↓reduceIte, true_and, and_true, Int.reduceLE, Int.reduceLT, Int.reduceEq, not_true_eq_false, not_false_eq_true, false_or, or_false, true_or, or_true, ite_not, Int.reduceNeg, Int32.reduceToInt, Nat.reduceAdd, Nat.reduceLeDiff, Nat.reduceLT, Nat.reduceEqDiff, Int.reduceAdd, Int.reduceSub, Int.reduceMul, Nat.zero_le, pk_po_ne, pk_po_eq, pk_po_ix, rI, ne_eq]
    rw [C67 h1.1 (by omega)]
    simp only [↓x_al_0, ↓x_il_1, ↓x_c, ↓gi_0_1, ↓x_mm0, ↓c_110, ↓pi_0_1, ↓gr_0_2, ↓c_67, ↓gr_0_8, ↓gd_0_6, ↓c_47, ↓x_ne0, ↓gi_2_4, ↓x_isub, ↓x_ir, ↓gd_0_5, ↓x_as_2, ↓x_al_2, ↓gi_lA_0, ↓gi_lB_0, ↓n_79, ↓s_79_0, ↓s_79_54, ↓bk_v, ↓bk_n, ↓bk_r, ↓be_79, ↓pv_i, ↓pv_r, ↓pv_0, ↓pv_l, wz_pk, wz_ti, wz_wz, vI_wz, wz_id, wz_0, List.length_cons, List.length_nil, ↓reduceIte, true_and, and_true, Int.reduceLE, Int.reduceLT, Int.reduceEq, not_true_eq_false, not_false_eq_true, false_or, or_false, true_or, or_true, ite_not, Int.reduceNeg, Int32.reduceToInt, Nat.reduceAdd, Nat.reduceLeDiff, Nat.reduceLT, Nat.reduceEqDiff, Int.reduceAdd, Int.reduceSub, Int.reduceMul, Nat.zero_le, pk_po_ne, pk_po_eq, pk_po_ix, rI, ne_eq]
    refine C47 hC1 hn1 h1.1 (by omega) ?_ ?_
    · intro x S' M' hk hC' hF'
      have ek : lwR S n = (0, x, S') := hk
      have hC2 := hC'.swl
      have e := (hP (s.1, !s.2) dh (lB s)).ok (by rw [o_rules, if_pos h1, ek, if_pos rfl]) hC2 ((hF1.trans hF').swl)
      have eg := hC2.at 63 rfl 0
      have eg2 : swSL S' 63 0 = S' 69 0 := rfl
      rw [eg2] at eg
      simp only [↓x_al_0, ↓x_il_1, ↓x_c, ↓gi_0_1, ↓x_mm0, ↓c_110, ↓pi_0_1, ↓gr_0_2, ↓c_67, ↓gr_0_8, ↓gd_0_6, ↓c_47, ↓x_ne0, ↓gi_2_4, ↓x_isub, ↓x_ir, ↓gd_0_5, ↓x_as_2, ↓x_al_2, ↓gi_lA_0, ↓gi_lB_0, ↓n_79, ↓s_79_0, ↓s_79_54, ↓bk_v, ↓bk_n, ↓bk_r, ↓be_79, ↓pv_i, ↓pv_r, ↓pv_0, ↓pv_l, wz_pk, wz_ti, wz_wz, vI_wz, wz_id, wz_0, List.length_cons, List.length_nil, ↓reduceIte, true_and, and_true, Int.reduceLE, Int.reduceLT, Int.reduceEq, not_true_eq_false, not_false_eq_true, false_or, or_false, true_or, or_true, ite_not, Int.reduceNeg, Int32.reduceToInt, Nat.reduceAdd, Nat.reduceLeDiff, Nat.reduceLT, Nat.reduceEqDiff, Int.reduceAdd, Int.reduceSub, Int.reduceMul, Nat.zero_le, pk_po_ne, pk_po_eq, pk_po_ix, rI, ne_eq, ↓x_swL, eg]
      exact e
    · intro k x S' M' hk hr hX
      obtain ⟨M0, x1, x2, x3⟩ := hX
      have ek : lwR S n = (k, x, S') := hr
      have e := (hP s dh (lB s)).ok (v := k - 10) (by rw [o_rules, if_pos h1, ek]; simp only [if_neg hk]) (x1.fld x3) ((hF1.trans x2).trans (FC.fld x3))
      have e4 := x3.2.1
      simp only [↓x_al_0, ↓x_il_1, ↓x_c, ↓gi_0_1, ↓x_mm0, ↓c_110, ↓pi_0_1, ↓gr_0_2, ↓c_67, ↓gr_0_8, ↓gd_0_6, ↓c_47, ↓x_ne0, ↓gi_2_4, ↓x_isub, ↓x_ir, ↓gd_0_5, ↓x_as_2, ↓x_al_2, ↓gi_lA_0, ↓gi_lB_0, ↓n_79, ↓s_79_0, ↓s_79_54, ↓bk_v, ↓bk_n, ↓bk_r, ↓be_79, ↓pv_i, ↓pv_r, ↓pv_0, ↓pv_l, wz_pk, wz_ti, wz_wz, vI_wz, wz_id, wz_0, List.length_cons, List.length_nil, ↓reduceIte, true_and, and_true, Int.reduceLE, Int.reduceLT, Int.reduceEq, not_true_eq_false, not_false_eq_true, false_or, or_false, true_or, or_true, ite_not, Int.reduceNeg, Int32.reduceToInt, Nat.reduceAdd, Nat.reduceLeDiff, Nat.reduceLT, Nat.reduceEqDiff, Int.reduceAdd, Int.reduceSub, Int.reduceMul, Nat.zero_le, pk_po_ne, pk_po_eq, pk_po_ix, rI, ne_eq, e4]
      exact e
  · rw [if_neg h1]
    simp only [↓x_al_0, ↓x_il_1, ↓x_c, ↓gi_0_1, ↓x_mm0, ↓c_110, ↓pi_0_1, ↓gr_0_2, ↓c_67, ↓gr_0_8, ↓gd_0_6, ↓c_47, ↓x_ne0, ↓gi_2_4, ↓x_isub, ↓x_ir, ↓gd_0_5, ↓x_as_2, ↓x_al_2, ↓gi_lA_0, ↓gi_lB_0, ↓n_79, ↓s_79_0, ↓s_79_54, ↓bk_v, ↓bk_n, ↓bk_r, ↓be_79, ↓pv_i, ↓pv_r, ↓pv_0, ↓pv_l, wz_pk, wz_ti, wz_wz, vI_wz, wz_id, wz_0, List.length_cons, List.length_nil, ↓reduceIte, true_and, and_true, Int.reduceLE, Int.reduceLT, Int.reduceEq, not_true_eq_false, not_false_eq_true, false_or, or_false, true_or, or_true, ite_not, Int.reduceNeg, Int32.reduceToInt, Nat.reduceAdd, Nat.reduceLeDiff, Nat.reduceLT, Nat.reduceEqDiff, Int.reduceAdd, Int.reduceSub, Int.reduceMul, Nat.zero_le, pk_po_ne, pk_po_eq, pk_po_ix, rI, ne_eq]
    exact (hP s dh dl).no 1 (by rw [o_rules, if_neg h1]; rfl) hC.ref (FC.rfl.pw (by decide))
end C54
