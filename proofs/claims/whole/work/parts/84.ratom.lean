section R84
variable {Q : MOut → MHp → Prop} {X : Nat × (Nat → Int32)} {s : Bool × Bool} {dh dl t : Nat} {M : Mem} {S : St} {p n x k : Int} {W : Int → Int}
theorem R145 (hT : TR S n M) (h0 : 0 ≤ p) (h1 : p ≤ n) (hb : pk M 142 5 = -1)
    (hok : ∀ y v c, (c = 60 ∨ c = 62) → sk S n p < n → S 1 (sk S n p) = c → rdN S n 0 9999 (sk S n p + 1) = (0, y, v) → Q (rI (if c = 60 then -1 - v else v)) (mkh X s dh dl t (ra M y)))
    (hx : ∀ i y v c z, (c = 60 ∨ c = 62) → sk S n p < n → S 1 (sk S n p) = c → ¬ i = 0 → rdN S n 0 9999 (sk S n p + 1) = (i, y, 0) → Q (rI v) (mkh X s dh dl t (ra (po (po M 142 5 y) 142 6 i) z)))
    (hn : ¬ (sk S n p < n ∧ S 1 (sk S n p) = 60) → ¬ (sk S n p < n ∧ S 1 (sk S n p) = 62) → Q (rI 0) (mkh X s dh dl t (ra (po (po M 142 5 (sk S n p)) 142 6 1) (sk S n p)))) : CL 145 [.ref 142] (mkh X s dh dl t (ra M p)) Q := by
  have hs := sk_rng (S := S) h1
  have n6 := hT.2.2
  have hfi : ∀ y, pk (ra M y) 142 5 = -1 := fun y => by rw [ra_x (by decide)]; exact hb
  have wch : wz (chr S n (sk S n p)) = chr S n (sk S n p) := by
    unfold chr
    by_cases c : sk S n p < n
    · rw [if_pos c]
      exact wz_of (hT.1 _ (by omega) c)
    · rw [if_neg c]; exact wz_0
  by_cases c1 : sk S n p < n ∧ S 1 (sk S n p) = 60
  · have hc : chr S n (sk S n p) = 60 := by unfold chr; rw [if_pos c1.1]; exact c1.2
    simp (disch := omega) only [↓x_al_0, ↓c_123, ↓x_ne0, ↓x_c, ↓x_ir, ↓c_125, ↓x_is_1, ↓x_il_1, ↓x_eq, ↓gi_142_4, ↓c_124, ↓x_dup_i, ↓x_dup_r, ↓x_iadd, ↓pi_142_4, ↓c_131, ↓x_is_2, ↓x_ne, ↓x_il_2, ↓x_isub, ↓x_go, ↓n_145, ↓s_145_0, ↓s_145_9, ↓s_145_37, ↓s_145_68, ↓s_145_69, ↓bk_v, ↓bk_n, ↓bk_r, ↓pv_i, ↓pv_r, ↓pv_0, ↓pv_l, wz_pk, wz_ti, wz_wz, vI_wz, wz_id, wz_0, List.length_cons, List.length_nil, ↓reduceIte, true_and, and_true, Int.reduceLE, Int.reduceLT, Int.reduceEq, not_true_eq_false, not_false_eq_true, false_or, or_false, true_or, or_true, ite_not, Int.reduceNeg, Int32.reduceToInt, Nat.reduceAdd, Nat.reduceLeDiff, Nat.reduceLT, Nat.reduceEqDiff, Int.reduceAdd, Int.reduceSub, Int.reduceMul, Nat.zero_le, pk_po_ne, pk_po_eq, pk_po_ix, rI, ne_eq, ↓R123, hfi, decide_true, bi_wz, bi_0, Bool.true_eq_false, if_false, ↓R125 hT h0 h1, hc, if_true, ra_4, ra_p]
    refine R131 hT (by omega) (by omega) hb rfl rfl (by decide) (by decide) ?_ ?_
    · intro y v hr
      have e := hok y v 60 (Or.inl rfl) c1.1 c1.2 hr
      simp (disch := omega) only [↓x_al_0, ↓c_123, ↓x_ne0, ↓x_c, ↓x_ir, ↓c_125, ↓x_is_1, ↓x_il_1, ↓x_eq, ↓gi_142_4, ↓c_124, ↓x_dup_i, ↓x_dup_r, ↓x_iadd, ↓pi_142_4, ↓c_131, ↓x_is_2, ↓x_ne, ↓x_il_2, ↓x_isub, ↓x_go, ↓n_145, ↓s_145_0, ↓s_145_9, ↓s_145_37, ↓s_145_68, ↓s_145_69, ↓bk_v, ↓bk_n, ↓bk_r, ↓pv_i, ↓pv_r, ↓pv_0, ↓pv_l, wz_pk, wz_ti, wz_wz, vI_wz, wz_id, wz_0, List.length_cons, List.length_nil, ↓reduceIte, true_and, and_true, Int.reduceLE, Int.reduceLT, Int.reduceEq, not_true_eq_false, not_false_eq_true, false_or, or_false, true_or, or_true, ite_not, Int.reduceNeg, Int32.reduceToInt, Nat.reduceAdd, Nat.reduceLeDiff, Nat.reduceLT, Nat.reduceEqDiff, Int.reduceAdd, Int.reduceSub, Int.reduceMul, Nat.zero_le, pk_po_ne, pk_po_eq, pk_po_ix, rI, ne_eq]
      exact e
    · intro i y hi hr z
      have e := hx i y (-1 - 0) 60 z (Or.inl rfl) c1.1 c1.2 hi hr
      simp (disch := omega) only [↓x_al_0, ↓c_123, ↓x_ne0, ↓x_c, ↓x_ir, ↓c_125, ↓x_is_1, ↓x_il_1, ↓x_eq, ↓gi_142_4, ↓c_124, ↓x_dup_i, ↓x_dup_r, ↓x_iadd, ↓pi_142_4, ↓c_131, ↓x_is_2, ↓x_ne, ↓x_il_2, ↓x_isub, ↓x_go, ↓n_145, ↓s_145_0, ↓s_145_9, ↓s_145_37, ↓s_145_68, ↓s_145_69, ↓bk_v, ↓bk_n, ↓bk_r, ↓pv_i, ↓pv_r, ↓pv_0, ↓pv_l, wz_pk, wz_ti, wz_wz, vI_wz, wz_id, wz_0, List.length_cons, List.length_nil, ↓reduceIte, true_and, and_true, Int.reduceLE, Int.reduceLT, Int.reduceEq, not_true_eq_false, not_false_eq_true, false_or, or_false, true_or, or_true, ite_not, Int.reduceNeg, Int32.reduceToInt, Nat.reduceAdd, Nat.reduceLeDiff, Nat.reduceLT, Nat.reduceEqDiff, Int.reduceAdd, Int.reduceSub, Int.reduceMul, Nat.zero_le, pk_po_ne, pk_po_eq, pk_po_ix, rI, ne_eq]
      exact e
  · by_cases c2 : sk S n p < n ∧ S 1 (sk S n p) = 62
    · have hc : chr S n (sk S n p) = 62 := by unfold chr; rw [if_pos c2.1]; exact c2.2
      simp (disch := omega) only [↓x_al_0, ↓c_123, ↓x_ne0, ↓x_c, ↓x_ir, ↓c_125, ↓x_is_1, ↓x_il_1, ↓x_eq, ↓gi_142_4, ↓c_124, ↓x_dup_i, ↓x_dup_r, ↓x_iadd, ↓pi_142_4, ↓c_131, ↓x_is_2, ↓x_ne, ↓x_il_2, ↓x_isub, ↓x_go, ↓n_145, ↓s_145_0, ↓s_145_9, ↓s_145_37, ↓s_145_68, ↓s_145_69, ↓bk_v, ↓bk_n, ↓bk_r, ↓pv_i, ↓pv_r, ↓pv_0, ↓pv_l, wz_pk, wz_ti, wz_wz, vI_wz, wz_id, wz_0, List.length_cons, List.length_nil, ↓reduceIte, true_and, and_true, Int.reduceLE, Int.reduceLT, Int.reduceEq, not_true_eq_false, not_false_eq_true, false_or, or_false, true_or, or_true, ite_not, Int.reduceNeg, Int32.reduceToInt, Nat.reduceAdd, Nat.reduceLeDiff, Nat.reduceLT, Nat.reduceEqDiff, Int.reduceAdd, Int.reduceSub, Int.reduceMul, Nat.zero_le, pk_po_ne, pk_po_eq, pk_po_ix, rI, ne_eq, ↓R123, hfi, decide_true, bi_wz, bi_0, Bool.true_eq_false, if_false, ↓R125 hT h0 h1, hc, if_true, ra_4, ra_p]
      refine R131 hT (by omega) (by omega) hb rfl rfl (by decide) (by decide) ?_ ?_
      · intro y v hr
        have e := hok y v 62 (Or.inr rfl) c2.1 c2.2 hr
        simp (disch := omega) only [↓x_al_0, ↓c_123, ↓x_ne0, ↓x_c, ↓x_ir, ↓c_125, ↓x_is_1, ↓x_il_1, ↓x_eq, ↓gi_142_4, ↓c_124, ↓x_dup_i, ↓x_dup_r, ↓x_iadd, ↓pi_142_4, ↓c_131, ↓x_is_2, ↓x_ne, ↓x_il_2, ↓x_isub, ↓x_go, ↓n_145, ↓s_145_0, ↓s_145_9, ↓s_145_37, ↓s_145_68, ↓s_145_69, ↓bk_v, ↓bk_n, ↓bk_r, ↓pv_i, ↓pv_r, ↓pv_0, ↓pv_l, wz_pk, wz_ti, wz_wz, vI_wz, wz_id, wz_0, List.length_cons, List.length_nil, ↓reduceIte, true_and, and_true, Int.reduceLE, Int.reduceLT, Int.reduceEq, not_true_eq_false, not_false_eq_true, false_or, or_false, true_or, or_true, ite_not, Int.reduceNeg, Int32.reduceToInt, Nat.reduceAdd, Nat.reduceLeDiff, Nat.reduceLT, Nat.reduceEqDiff, Int.reduceAdd, Int.reduceSub, Int.reduceMul, Nat.zero_le, pk_po_ne, pk_po_eq, pk_po_ix, rI, ne_eq]
        exact e
      · intro i y hi hr z
        have e := hx i y 0 62 z (Or.inr rfl) c2.1 c2.2 hi hr
        simp (disch := omega) only [↓x_al_0, ↓c_123, ↓x_ne0, ↓x_c, ↓x_ir, ↓c_125, ↓x_is_1, ↓x_il_1, ↓x_eq, ↓gi_142_4, ↓c_124, ↓x_dup_i, ↓x_dup_r, ↓x_iadd, ↓pi_142_4, ↓c_131, ↓x_is_2, ↓x_ne, ↓x_il_2, ↓x_isub, ↓x_go, ↓n_145, ↓s_145_0, ↓s_145_9, ↓s_145_37, ↓s_145_68, ↓s_145_69, ↓bk_v, ↓bk_n, ↓bk_r, ↓pv_i, ↓pv_r, ↓pv_0, ↓pv_l, wz_pk, wz_ti, wz_wz, vI_wz, wz_id, wz_0, List.length_cons, List.length_nil, ↓reduceIte, true_and, and_true, Int.reduceLE, Int.reduceLT, Int.reduceEq, not_true_eq_false, not_false_eq_true, false_or, or_false, true_or, or_true, ite_not, Int.reduceNeg, Int32.reduceToInt, Nat.reduceAdd, Nat.reduceLeDiff, Nat.reduceLT, Nat.reduceEqDiff, Int.reduceAdd, Int.reduceSub, Int.reduceMul, Nat.zero_le, pk_po_ne, pk_po_eq, pk_po_ix, rI, ne_eq]
        exact e
    · have hc1 : ¬ chr S n (sk S n p) = 60 := by
        unfold chr
        by_cases c : sk S n p < n
        · rw [if_pos c]; exact fun e => c1 ⟨c, e⟩
        · rw [if_neg c]; decide
      have hc2 : ¬ chr S n (sk S n p) = 62 := by
        unfold chr
        by_cases c : sk S n p < n
        · rw [if_pos c]; exact fun e => c2 ⟨c, e⟩
        · rw [if_neg c]; decide
      have e := hn c1 c2
      simp (disch := omega) only [↓x_al_0, ↓c_123, ↓x_ne0, ↓x_c, ↓x_ir, ↓c_125, ↓x_is_1, ↓x_il_1, ↓x_eq, ↓gi_142_4, ↓c_124, ↓x_dup_i, ↓x_dup_r, ↓x_iadd, ↓pi_142_4, ↓c_131, ↓x_is_2, ↓x_ne, ↓x_il_2, ↓x_isub, ↓x_go, ↓n_145, ↓s_145_0, ↓s_145_9, ↓s_145_37, ↓s_145_68, ↓s_145_69, ↓bk_v, ↓bk_n, ↓bk_r, ↓pv_i, ↓pv_r, ↓pv_0, ↓pv_l, wz_pk, wz_ti, wz_wz, vI_wz, wz_id, wz_0, List.length_cons, List.length_nil, ↓reduceIte, true_and, and_true, Int.reduceLE, Int.reduceLT, Int.reduceEq, not_true_eq_false, not_false_eq_true, false_or, or_false, true_or, or_true, ite_not, Int.reduceNeg, Int32.reduceToInt, Nat.reduceAdd, Nat.reduceLeDiff, Nat.reduceLT, Nat.reduceEqDiff, Int.reduceAdd, Int.reduceSub, Int.reduceMul, Nat.zero_le, pk_po_ne, pk_po_eq, pk_po_ix, rI, ne_eq, ↓R123, hfi, decide_true, bi_wz, bi_0, Bool.true_eq_false, if_false, ↓R125 hT h0 h1, wch, hc1, hc2, ra_4, ↓R124f (hfi _), ra_px]
      exact e
theorem wl : P_txt 35 = P_txt 11 ∧ P_txt 36 = P_txt 12 ∧ P_txt 37 = P_txt 13 ∧ P_txt 38 = P_txt 14 ∧ P_txt 31 = P_txt 15 ∧ P_txt 39 = P_txt 16 ∧ P_txt 40 = P_txt 17 ∧ P_txt 41 = P_txt 18 ∧ P_txt 42 = P_txt 19 ∧ P_txt 43 = P_txt 20 ∧ P_txt 44 = P_txt 21 ∧ P_txt 45 = P_txt 22 ∧ P_txt 34 = P_txt 10 ∧ P_txt 33 = P_txt 9 := ⟨rfl, rfl, rfl, rfl, rfl, rfl, rfl, rfl, rfl, rfl, rfl, rfl, rfl, rfl⟩
theorem wrd_j {q : Int} (j j' : Nat) (hj1 : P_txt j = P_txt j') (hk : okw (P_txt j) = true) (h1 : q ≤ n) : (wy (wrd S q (we S n q)) = wy (hj j)) = (isW S q (we S n q) (P_txt j') = true) := by
  rw [← hj1]
  exact wrd_iff hk h1
/-- an atom -/
theorem R149 (hT : TR S n M) (h0 : 0 ≤ p) (h1 : p ≤ n) (h2 : n ≤ 300) (hb : pk M 142 5 = -1) (hq : TQ S W k M) (hl : 0 ≤ S 69 1 ∧ 0 ≤ k ∧ S 69 1 + k ≤ p)
    (hno : subj S (sk S n p) (we S n (sk S n p)) = -1 → Q (.inl none) (mkh X s dh dl t (ra (po (po M 142 5 (sk S n p)) 142 6 1) (sk S n p))))
    (hok : ∀ y S' M', ¬ subj S (sk S n p) (we S n (sk S n p)) = -1 → l_atom S W k n (subj S (sk S n p) (we S n (sk S n p))) (we S n (sk S n p)) = (0, y, 1, S', W, k) → TQ S' W k M' → NL M M' → pk M' 142 5 = -1 → Q (.inl none) (mkh X s dh dl t (ra M' y)))
    (hbad : ∀ i y S' M', ¬ subj S (sk S n p) (we S n (sk S n p)) = -1 → ¬ i = 0 → l_atom S W k n (subj S (sk S n p) (we S n (sk S n p))) (we S n (sk S n p)) = (i, y, 1, S', W, k) → NL M M' → BAD M' i y → pk M' 142 34 = k → Q (.inl none) (mkh X s dh dl t M')) : CL 149 [.ref 142] (mkh X s dh dl t (ra M p)) Q := by
  have hs := sk_rng (S := S) h1
  have hwe := we_rng (S := S) hs.2
  have n6 := hT.2.2
  have sq := sk_sk (S := S) (n := n) (p := p)
  obtain ⟨q, hqq⟩ : ∃ q, q = sk S n p := ⟨_, rfl⟩
  rw [← hqq] at hs hwe hno hok hbad sq
  have hfi : ∀ y, pk (ra M y) 142 5 = -1 := fun y => by rw [ra_x (by decide)]; exact hb
  have r128 : ∀ (Q : MOut → MHp → Prop), (CL 128 [.ref 142] (mkh X s dh dl t (ra M p)) Q ↔ Q (.inl (some (vJ (wrd S q (we S n q))))) (mkh X s dh dl t (ra M q))) := fun Q => by
    rw [hqq]; exact R128 hT h0 h1
  obtain ⟨w1, w2, w3, w4, w5, w6, w7, w8, w9, w10, -⟩ := wl
  have v1 := wrd_j (S := S) (n := n) (q := q) 35 11 w1 (by decide) hs.2
  have v2 := wrd_j (S := S) (n := n) (q := q) 36 12 w2 (by decide) hs.2
  have v3 := wrd_j (S := S) (n := n) (q := q) 37 13 w3 (by decide) hs.2
  have v4 := wrd_j (S := S) (n := n) (q := q) 38 14 w4 (by decide) hs.2
  have v5 := wrd_j (S := S) (n := n) (q := q) 31 15 w5 (by decide) hs.2
  have v6 := wrd_j (S := S) (n := n) (q := q) 39 16 w6 (by decide) hs.2
  have v7 := wrd_j (S := S) (n := n) (q := q) 40 17 w7 (by decide) hs.2
  have v8 := wrd_j (S := S) (n := n) (q := q) 41 18 w8 (by decide) hs.2
  have v9 := wrd_j (S := S) (n := n) (q := q) 42 19 w9 (by decide) hs.2
  have v10 := wrd_j (S := S) (n := n) (q := q) 43 20 w10 (by decide) hs.2
  have sr := subj_rng (S := S) (q := q) (e := we S n q)
  have sd := subj_e (S := S) (q := q) (e := we S n q)
  have main : EX 149 (sx 149 167) [.ref 142, vJ (wrd S q (we S n q)), .null, .null] [vI (subj S q (we S n q))] (mkh X s dh dl t (ra M q)) Q := by
    obtain ⟨e, he⟩ : ∃ e, e = we S n q := ⟨_, rfl⟩
    rw [← he] at hwe hno hok hbad sr sd ⊢
    have r130 : ∀ (Q : MOut → MHp → Prop), (CL 130 [.ref 142] (mkh X s dh dl t (ra M q)) Q ↔ Q (.inl none) (mkh X s dh dl t (ra M e))) := fun Q => by
      rw [he]; exact R130 hT (by omega) hs.2
    obtain ⟨b, hbb⟩ : ∃ b, b = subj S q e := ⟨_, rfl⟩
    rw [← hbb] at hno hok hbad sr sd ⊢
    have wb : wz b = b := wz_id (by omega) (by omega)
    have wq : wz q = q := wz_id (by omega) (by omega)
    have hs32 := hq.1.1
    rw [s_149_167]
    by_cases c1 : b = -1
    · have z := hno c1
      subst c1
      simp (disch := omega) only [↓x_al_0, ↓c_123, ↓x_ne0, ↓x_rt, ↓c_128, ↓x_ls_1, ↓x_ll_1, ↓x_str, ↓c_129, ↓x_lcw0, ↓x_lcw1, ↓x_c, ↓x_go, ↓x_is_3, ↓x_il_3, ↓x_ne, ↓gi_142_4, ↓c_124, ↓c_130, ↓c_131, ↓x_gt, ↓c_145, ↓c_144, ↓n_149, ↓s_149_0, ↓s_149_8, ↓s_149_28, ↓s_149_43, ↓s_149_58, ↓s_149_73, ↓s_149_87, ↓s_149_102, ↓s_149_118, ↓s_149_134, ↓s_149_150, ↓s_149_166, ↓s_149_167, ↓s_149_183, ↓s_149_202, ↓s_149_214, ↓s_149_215, ↓bk_v, ↓bk_n, ↓bk_r, ↓pv_i, ↓pv_r, ↓pv_0, ↓pv_l, wz_pk, wz_ti, wz_wz, vI_wz, wz_id, wz_0, List.length_cons, List.length_nil, ↓reduceIte, true_and, and_true, Int.reduceLE, Int.reduceLT, Int.reduceEq, not_true_eq_false, not_false_eq_true, false_or, or_false, true_or, or_true, ite_not, Int.reduceNeg, Int32.reduceToInt, Nat.reduceAdd, Nat.reduceLeDiff, Nat.reduceLT, Nat.reduceEqDiff, Int.reduceAdd, Int.reduceSub, Int.reduceMul, Nat.zero_le, pk_po_ne, pk_po_eq, pk_po_ix, rI, ne_eq, if_true, ra_4, ↓R124f (hfi _), ra_px]
      exact z
    · have hqe := sd c1
      have s300 : 0 ≤ S 69 1 ∧ S 69 1 < 300 := by omega
      -- a number behind it
      have num : ∀ (c v y : Int) , l_atom S W k n b e = (0, y, 1, lawAdd S c b v, W, k) → stpC c b = b → wz (stpV c b v) = stpV c b v → Q (.inl none) (mkh X s dh dl t (ra (po (po (po M 155 (S 69 1) b) 156 (S 69 1) (stpV c b v)) 142 32 (S 69 1 + 1)) y)) := by
        intro c v y hla hst hw
        have ta := hq.add (c := c) (b := b) (v := v) s300 (by rw [hst]; exact wb) hw
        rw [hst] at ta
        exact hok y _ _ c1 hla ta (((NL.rfl.pw rfl).pw rfl).pw rfl) (by rw [pk_po_ix (by decide), pk_po_ne (by decide), pk_po_ne (by decide)]; exact hb)
      by_cases c2 : b = 0
      · subst c2
        simp (disch := omega) only [↓x_al_0, ↓c_123, ↓x_ne0, ↓x_rt, ↓c_128, ↓x_ls_1, ↓x_ll_1, ↓x_str, ↓c_129, ↓x_lcw0, ↓x_lcw1, ↓x_c, ↓x_go, ↓x_is_3, ↓x_il_3, ↓x_ne, ↓gi_142_4, ↓c_124, ↓c_130, ↓c_131, ↓x_gt, ↓c_145, ↓c_144, ↓n_149, ↓s_149_0, ↓s_149_8, ↓s_149_28, ↓s_149_43, ↓s_149_58, ↓s_149_73, ↓s_149_87, ↓s_149_102, ↓s_149_118, ↓s_149_134, ↓s_149_150, ↓s_149_166, ↓s_149_167, ↓s_149_183, ↓s_149_202, ↓s_149_214, ↓s_149_215, ↓bk_v, ↓bk_n, ↓bk_r, ↓pv_i, ↓pv_r, ↓pv_0, ↓pv_l, wz_pk, wz_ti, wz_wz, vI_wz, wz_id, wz_0, List.length_cons, List.length_nil, ↓reduceIte, true_and, and_true, Int.reduceLE, Int.reduceLT, Int.reduceEq, not_true_eq_false, not_false_eq_true, false_or, or_false, true_or, or_true, ite_not, Int.reduceNeg, Int32.reduceToInt, Nat.reduceAdd, Nat.reduceLeDiff, Nat.reduceLT, Nat.reduceEqDiff, Int.reduceAdd, Int.reduceSub, Int.reduceMul, Nat.zero_le, pk_po_ne, pk_po_eq, pk_po_ix, rI, ne_eq, if_false, ↓r130, if_true]
        refine R131 hT (by omega) hwe.2 hb rfl rfl (by decide) (by decide) ?_ ?_
        · intro y v hr
          obtain ⟨a1, a2⟩ := rdN_ok hwe.2 hr
          have z := num 6 v y (by rw [l_atom, if_pos rfl, l_num, hr]; rfl) rfl (by show wz v = v; exact wz_id (by omega) (by omega))
          simp (disch := omega) only [↓x_al_0, ↓c_123, ↓x_ne0, ↓x_rt, ↓c_128, ↓x_ls_1, ↓x_ll_1, ↓x_str, ↓c_129, ↓x_lcw0, ↓x_lcw1, ↓x_c, ↓x_go, ↓x_is_3, ↓x_il_3, ↓x_ne, ↓gi_142_4, ↓c_124, ↓c_130, ↓c_131, ↓x_gt, ↓c_145, ↓c_144, ↓n_149, ↓s_149_0, ↓s_149_8, ↓s_149_28, ↓s_149_43, ↓s_149_58, ↓s_149_73, ↓s_149_87, ↓s_149_102, ↓s_149_118, ↓s_149_134, ↓s_149_150, ↓s_149_166, ↓s_149_167, ↓s_149_183, ↓s_149_202, ↓s_149_214, ↓s_149_215, ↓bk_v, ↓bk_n, ↓bk_r, ↓pv_i, ↓pv_r, ↓pv_0, ↓pv_l, wz_pk, wz_ti, wz_wz, vI_wz, wz_id, wz_0, List.length_cons, List.length_nil, ↓reduceIte, true_and, and_true, Int.reduceLE, Int.reduceLT, Int.reduceEq, not_true_eq_false, not_false_eq_true, false_or, or_false, true_or, or_true, ite_not, Int.reduceNeg, Int32.reduceToInt, Nat.reduceAdd, Nat.reduceLeDiff, Nat.reduceLT, Nat.reduceEqDiff, Int.reduceAdd, Int.reduceSub, Int.reduceMul, Nat.zero_le, pk_po_ne, pk_po_eq, pk_po_ix, rI, ne_eq, ↓R144 (p := y) hb hs32 s300]
          exact z
        · intro i y hi hr z
          obtain ⟨⟨x1, x2⟩, x3⟩ := rd_bad (by omega) hwe.2 n6.2 hi hr
          have hb2 : ¬ pk (ra (po (po M 142 5 y) 142 6 i) z) 142 5 = -1 := by simp [pk_po, pk_flm, ra]; rw [x1]; exact x2
          have z2 := hbad i y _ (ra (po (po M 142 5 y) 142 6 i) z) c1 hi (by rw [l_atom, if_pos rfl, l_num, hr]; simp only [if_neg hi]; rfl) (((NL.rfl.pw rfl).pw rfl).ra) ⟨by simp [pk_po, pk_flm, ra]; exact x1, by simp [pk_po, pk_flm, ra]; exact x3, x2⟩ (by rw [ra_x (by decide), pk_po_ix (by decide), pk_po_ix (by decide)]; exact hq.2.1)
          simp (disch := omega) only [↓x_al_0, ↓c_123, ↓x_ne0, ↓x_rt, ↓c_128, ↓x_ls_1, ↓x_ll_1, ↓x_str, ↓c_129, ↓x_lcw0, ↓x_lcw1, ↓x_c, ↓x_go, ↓x_is_3, ↓x_il_3, ↓x_ne, ↓gi_142_4, ↓c_124, ↓c_130, ↓c_131, ↓x_gt, ↓c_145, ↓c_144, ↓n_149, ↓s_149_0, ↓s_149_8, ↓s_149_28, ↓s_149_43, ↓s_149_58, ↓s_149_73, ↓s_149_87, ↓s_149_102, ↓s_149_118, ↓s_149_134, ↓s_149_150, ↓s_149_166, ↓s_149_167, ↓s_149_183, ↓s_149_202, ↓s_149_214, ↓s_149_215, ↓bk_v, ↓bk_n, ↓bk_r, ↓pv_i, ↓pv_r, ↓pv_0, ↓pv_l, wz_pk, wz_ti, wz_wz, vI_wz, wz_id, wz_0, List.length_cons, List.length_nil, ↓reduceIte, true_and, and_true, Int.reduceLE, Int.reduceLT, Int.reduceEq, not_true_eq_false, not_false_eq_true, false_or, or_false, true_or, or_true, ite_not, Int.reduceNeg, Int32.reduceToInt, Nat.reduceAdd, Nat.reduceLeDiff, Nat.reduceLT, Nat.reduceEqDiff, Int.reduceAdd, Int.reduceSub, Int.reduceMul, Nat.zero_le, pk_po_ne, pk_po_eq, pk_po_ix, rI, ne_eq, ↓R144b hb2]
          exact z2
      · by_cases c3 : b ≤ 3
        · have c4 : ¬ 3 < b := by omega
          have hsz := sk_rng (S := S) hwe.2
          simp (disch := omega) only [↓x_al_0, ↓c_123, ↓x_ne0, ↓x_rt, ↓c_128, ↓x_ls_1, ↓x_ll_1, ↓x_str, ↓c_129, ↓x_lcw0, ↓x_lcw1, ↓x_c, ↓x_go, ↓x_is_3, ↓x_il_3, ↓x_ne, ↓gi_142_4, ↓c_124, ↓c_130, ↓c_131, ↓x_gt, ↓c_145, ↓c_144, ↓n_149, ↓s_149_0, ↓s_149_8, ↓s_149_28, ↓s_149_43, ↓s_149_58, ↓s_149_73, ↓s_149_87, ↓s_149_102, ↓s_149_118, ↓s_149_134, ↓s_149_150, ↓s_149_166, ↓s_149_167, ↓s_149_183, ↓s_149_202, ↓s_149_214, ↓s_149_215, ↓bk_v, ↓bk_n, ↓bk_r, ↓pv_i, ↓pv_r, ↓pv_0, ↓pv_l, wz_pk, wz_ti, wz_wz, vI_wz, wz_id, wz_0, List.length_cons, List.length_nil, ↓reduceIte, true_and, and_true, Int.reduceLE, Int.reduceLT, Int.reduceEq, not_true_eq_false, not_false_eq_true, false_or, or_false, true_or, or_true, ite_not, Int.reduceNeg, Int32.reduceToInt, Nat.reduceAdd, Nat.reduceLeDiff, Nat.reduceLT, Nat.reduceEqDiff, Int.reduceAdd, Int.reduceSub, Int.reduceMul, Nat.zero_le, pk_po_ne, pk_po_eq, pk_po_ix, rI, ne_eq, c1, c2, if_false, ↓r130, if_true, c4, wb]
          refine R145 hT (by omega) hwe.2 hb ?_ ?_ ?_
          · intro y v c hc d1 d2 hr
            obtain ⟨a1, a2⟩ := rdN_ok (by omega) hr
            have wv : wz (if c = 60 then -1 - v else v) = if c = 60 then -1 - v else v := by split <;> exact wz_id (by omega) (by omega)
            rcases hc with rfl | rfl
            · have sv : stpV 4 b v = -1 - v := by unfold stpV; rw [if_neg (by decide), if_neg c2, if_pos c3, if_pos rfl]
              have z := num 4 v y (by rw [l_atom, if_neg c2, if_pos c3, if_pos ⟨d1, d2⟩, l_num, hr]; rfl) (by unfold stpC; rw [if_pos (by decide)]) (by rw [sv]; exact wz_id (by omega) (by omega))
              rw [sv] at z
              simp (disch := omega) only [↓x_al_0, ↓c_123, ↓x_ne0, ↓x_rt, ↓c_128, ↓x_ls_1, ↓x_ll_1, ↓x_str, ↓c_129, ↓x_lcw0, ↓x_lcw1, ↓x_c, ↓x_go, ↓x_is_3, ↓x_il_3, ↓x_ne, ↓gi_142_4, ↓c_124, ↓c_130, ↓c_131, ↓x_gt, ↓c_145, ↓c_144, ↓n_149, ↓s_149_0, ↓s_149_8, ↓s_149_28, ↓s_149_43, ↓s_149_58, ↓s_149_73, ↓s_149_87, ↓s_149_102, ↓s_149_118, ↓s_149_134, ↓s_149_150, ↓s_149_166, ↓s_149_167, ↓s_149_183, ↓s_149_202, ↓s_149_214, ↓s_149_215, ↓bk_v, ↓bk_n, ↓bk_r, ↓pv_i, ↓pv_r, ↓pv_0, ↓pv_l, wz_pk, wz_ti, wz_wz, vI_wz, wz_id, wz_0, List.length_cons, List.length_nil, ↓reduceIte, true_and, and_true, Int.reduceLE, Int.reduceLT, Int.reduceEq, not_true_eq_false, not_false_eq_true, false_or, or_false, true_or, or_true, ite_not, Int.reduceNeg, Int32.reduceToInt, Nat.reduceAdd, Nat.reduceLeDiff, Nat.reduceLT, Nat.reduceEqDiff, Int.reduceAdd, Int.reduceSub, Int.reduceMul, Nat.zero_le, pk_po_ne, pk_po_eq, pk_po_ix, rI, ne_eq, if_true, ↓R144 (p := y) hb hs32 s300]
              exact z
            · have sv : stpV 5 b v = v := by unfold stpV; rw [if_neg (by decide), if_neg c2, if_pos c3, if_neg (by decide)]
              have z := num 5 v y (by rw [l_atom, if_neg c2, if_pos c3, if_neg (by rw [d2]; simp), if_pos ⟨d1, d2⟩, l_num, hr]; rfl) (by unfold stpC; rw [if_pos (by decide)]) (by rw [sv]; exact wz_id (by omega) (by omega))
              rw [sv] at z
              simp (disch := omega) only [↓x_al_0, ↓c_123, ↓x_ne0, ↓x_rt, ↓c_128, ↓x_ls_1, ↓x_ll_1, ↓x_str, ↓c_129, ↓x_lcw0, ↓x_lcw1, ↓x_c, ↓x_go, ↓x_is_3, ↓x_il_3, ↓x_ne, ↓gi_142_4, ↓c_124, ↓c_130, ↓c_131, ↓x_gt, ↓c_145, ↓c_144, ↓n_149, ↓s_149_0, ↓s_149_8, ↓s_149_28, ↓s_149_43, ↓s_149_58, ↓s_149_73, ↓s_149_87, ↓s_149_102, ↓s_149_118, ↓s_149_134, ↓s_149_150, ↓s_149_166, ↓s_149_167, ↓s_149_183, ↓s_149_202, ↓s_149_214, ↓s_149_215, ↓bk_v, ↓bk_n, ↓bk_r, ↓pv_i, ↓pv_r, ↓pv_0, ↓pv_l, wz_pk, wz_ti, wz_wz, vI_wz, wz_id, wz_0, List.length_cons, List.length_nil, ↓reduceIte, true_and, and_true, Int.reduceLE, Int.reduceLT, Int.reduceEq, not_true_eq_false, not_false_eq_true, false_or, or_false, true_or, or_true, ite_not, Int.reduceNeg, Int32.reduceToInt, Nat.reduceAdd, Nat.reduceLeDiff, Nat.reduceLT, Nat.reduceEqDiff, Int.reduceAdd, Int.reduceSub, Int.reduceMul, Nat.zero_le, pk_po_ne, pk_po_eq, pk_po_ix, rI, ne_eq, Int.reduceEq, if_false, ↓R144 (p := y) hb hs32 s300]
              exact z
          · intro i y v c z hc d1 d2 hi hr
            obtain ⟨⟨x1, x2⟩, x3⟩ := rd_bad (by omega) (by omega) n6.2 hi hr
            have hb2 : ¬ pk (ra (po (po M 142 5 y) 142 6 i) z) 142 5 = -1 := by simp [pk_po, pk_flm, ra]; rw [x1]; exact x2
            have hla : ∃ S', l_atom S W k n b e = (i, y, 1, S', W, k) := by
              rcases hc with rfl | rfl
              · exact ⟨_, by rw [l_atom, if_neg c2, if_pos c3, if_pos ⟨d1, d2⟩, l_num, hr]; simp only [if_neg hi]; rfl⟩
              · exact ⟨_, by rw [l_atom, if_neg c2, if_pos c3, if_neg (by rw [d2]; simp), if_pos ⟨d1, d2⟩, l_num, hr]; simp only [if_neg hi]; rfl⟩
            obtain ⟨S', hla⟩ := hla
            have z2 := hbad i y _ (ra (po (po M 142 5 y) 142 6 i) z) c1 hi hla (((NL.rfl.pw rfl).pw rfl).ra) ⟨by simp [pk_po, pk_flm, ra]; exact x1, by simp [pk_po, pk_flm, ra]; exact x3, x2⟩ (by rw [ra_x (by decide), pk_po_ix (by decide), pk_po_ix (by decide)]; exact hq.2.1)
            simp (disch := omega) only [↓x_al_0, ↓c_123, ↓x_ne0, ↓x_rt, ↓c_128, ↓x_ls_1, ↓x_ll_1, ↓x_str, ↓c_129, ↓x_lcw0, ↓x_lcw1, ↓x_c, ↓x_go, ↓x_is_3, ↓x_il_3, ↓x_ne, ↓gi_142_4, ↓c_124, ↓c_130, ↓c_131, ↓x_gt, ↓c_145, ↓c_144, ↓n_149, ↓s_149_0, ↓s_149_8, ↓s_149_28, ↓s_149_43, ↓s_149_58, ↓s_149_73, ↓s_149_87, ↓s_149_102, ↓s_149_118, ↓s_149_134, ↓s_149_150, ↓s_149_166, ↓s_149_167, ↓s_149_183, ↓s_149_202, ↓s_149_214, ↓s_149_215, ↓bk_v, ↓bk_n, ↓bk_r, ↓pv_i, ↓pv_r, ↓pv_0, ↓pv_l, wz_pk, wz_ti, wz_wz, vI_wz, wz_id, wz_0, List.length_cons, List.length_nil, ↓reduceIte, true_and, and_true, Int.reduceLE, Int.reduceLT, Int.reduceEq, not_true_eq_false, not_false_eq_true, false_or, or_false, true_or, or_true, ite_not, Int.reduceNeg, Int32.reduceToInt, Nat.reduceAdd, Nat.reduceLeDiff, Nat.reduceLT, Nat.reduceEqDiff, Int.reduceAdd, Int.reduceSub, Int.reduceMul, Nat.zero_le, pk_po_ne, pk_po_eq, pk_po_ix, rI, ne_eq, ↓R144b hb2]
            exact z2
          · intro d1 d2
            have x1 : wz (sk S n e) = sk S n e := wz_id (by omega) (by omega)
            have x2 : ¬ sk S n e = -1 := by omega
            have hb2 : ¬ pk (ra (po (po M 142 5 (sk S n e)) 142 6 1) (sk S n e)) 142 5 = -1 := by simp [pk_po, pk_flm, ra]; rw [x1]; exact x2
            have z2 := hbad 1 (sk S n e) _ (ra (po (po M 142 5 (sk S n e)) 142 6 1) (sk S n e)) c1 (by decide) (by rw [l_atom, if_neg c2, if_pos c3, if_neg d1, if_neg d2]) (((NL.rfl.pw rfl).pw rfl).ra) ⟨by simp [pk_po, pk_flm, ra]; exact x1, by simp [pk_po, pk_flm, ra]; rfl, x2⟩ (by rw [ra_x (by decide), pk_po_ix (by decide), pk_po_ix (by decide)]; exact hq.2.1)
            simp (disch := omega) only [↓x_al_0, ↓c_123, ↓x_ne0, ↓x_rt, ↓c_128, ↓x_ls_1, ↓x_ll_1, ↓x_str, ↓c_129, ↓x_lcw0, ↓x_lcw1, ↓x_c, ↓x_go, ↓x_is_3, ↓x_il_3, ↓x_ne, ↓gi_142_4, ↓c_124, ↓c_130, ↓c_131, ↓x_gt, ↓c_145, ↓c_144, ↓n_149, ↓s_149_0, ↓s_149_8, ↓s_149_28, ↓s_149_43, ↓s_149_58, ↓s_149_73, ↓s_149_87, ↓s_149_102, ↓s_149_118, ↓s_149_134, ↓s_149_150, ↓s_149_166, ↓s_149_167, ↓s_149_183, ↓s_149_202, ↓s_149_214, ↓s_149_215, ↓bk_v, ↓bk_n, ↓bk_r, ↓pv_i, ↓pv_r, ↓pv_0, ↓pv_l, wz_pk, wz_ti, wz_wz, vI_wz, wz_id, wz_0, List.length_cons, List.length_nil, ↓reduceIte, true_and, and_true, Int.reduceLE, Int.reduceLT, Int.reduceEq, not_true_eq_false, not_false_eq_true, false_or, or_false, true_or, or_true, ite_not, Int.reduceNeg, Int32.reduceToInt, Nat.reduceAdd, Nat.reduceLeDiff, Nat.reduceLT, Nat.reduceEqDiff, Int.reduceAdd, Int.reduceSub, Int.reduceMul, Nat.zero_le, pk_po_ne, pk_po_eq, pk_po_ix, rI, ne_eq, ↓R144b hb2]
            exact z2
        · have c4 : 3 < b := by omega
          have sv : stpV 6 b 1 = 0 := by unfold stpV; rw [if_neg (by decide), if_neg c2, if_neg c3]
          have z := num 6 1 e (by rw [l_atom, if_neg c2, if_neg c3]) (by unfold stpC; rw [if_pos (by decide)]) (by rw [sv]; rfl)
          rw [sv] at z
          simp (disch := omega) only [↓x_al_0, ↓c_123, ↓x_ne0, ↓x_rt, ↓c_128, ↓x_ls_1, ↓x_ll_1, ↓x_str, ↓c_129, ↓x_lcw0, ↓x_lcw1, ↓x_c, ↓x_go, ↓x_is_3, ↓x_il_3, ↓x_ne, ↓gi_142_4, ↓c_124, ↓c_130, ↓c_131, ↓x_gt, ↓c_145, ↓c_144, ↓n_149, ↓s_149_0, ↓s_149_8, ↓s_149_28, ↓s_149_43, ↓s_149_58, ↓s_149_73, ↓s_149_87, ↓s_149_102, ↓s_149_118, ↓s_149_134, ↓s_149_150, ↓s_149_166, ↓s_149_167, ↓s_149_183, ↓s_149_202, ↓s_149_214, ↓s_149_215, ↓bk_v, ↓bk_n, ↓bk_r, ↓pv_i, ↓pv_r, ↓pv_0, ↓pv_l, wz_pk, wz_ti, wz_wz, vI_wz, wz_id, wz_0, List.length_cons, List.length_nil, ↓reduceIte, true_and, and_true, Int.reduceLE, Int.reduceLT, Int.reduceEq, not_true_eq_false, not_false_eq_true, false_or, or_false, true_or, or_true, ite_not, Int.reduceNeg, Int32.reduceToInt, Nat.reduceAdd, Nat.reduceLeDiff, Nat.reduceLT, Nat.reduceEqDiff, Int.reduceAdd, Int.reduceSub, Int.reduceMul, Nat.zero_le, pk_po_ne, pk_po_eq, pk_po_ix, rI, ne_eq, c1, c2, if_false, ↓r130, if_true, c4, wb, ↓R144 (p := e) hb hs32 s300]
          exact z
  simp (disch := omega) only [↓x_al_0, ↓c_123, ↓x_ne0, ↓x_rt, ↓c_128, ↓x_ls_1, ↓x_ll_1, ↓x_str, ↓c_129, ↓x_lcw0, ↓x_lcw1, ↓x_c, ↓x_go, ↓x_is_3, ↓x_il_3, ↓x_ne, ↓gi_142_4, ↓c_124, ↓c_130, ↓c_131, ↓x_gt, ↓c_145, ↓c_144, ↓n_149, ↓s_149_0, ↓s_149_8, ↓s_149_28, ↓s_149_43, ↓s_149_58, ↓s_149_73, ↓s_149_87, ↓s_149_102, ↓s_149_118, ↓s_149_134, ↓s_149_150, ↓s_149_166, ↓s_149_183, ↓s_149_202, ↓s_149_214, ↓s_149_215, ↓bk_v, ↓bk_n, ↓bk_r, ↓pv_i, ↓pv_r, ↓pv_0, ↓pv_l, wz_pk, wz_ti, wz_wz, vI_wz, wz_id, wz_0, List.length_cons, List.length_nil, ↓reduceIte, true_and, and_true, Int.reduceLE, Int.reduceLT, Int.reduceEq, not_true_eq_false, not_false_eq_true, false_or, or_false, true_or, or_true, ite_not, Int.reduceNeg, Int32.reduceToInt, Nat.reduceAdd, Nat.reduceLeDiff, Nat.reduceLT, Nat.reduceEqDiff, Int.reduceAdd, Int.reduceSub, Int.reduceMul, Nat.zero_le, pk_po_ne, pk_po_eq, pk_po_ix, rI, ne_eq, ↓R123, hfi, decide_true, bi_wz, bi_0, Bool.true_eq_false, if_false, ↓r128, ↓R129j (j := 35) (by decide) (by decide), ↓R129j (j := 36) (by decide) (by decide), ↓R129j (j := 37) (by decide) (by decide), ↓R129j (j := 38) (by decide) (by decide), ↓R129j (j := 31) (by decide) (by decide), ↓R129j (j := 39) (by decide) (by decide), ↓R129j (j := 40) (by decide) (by decide), ↓R129j (j := 41) (by decide) (by decide), ↓R129j (j := 42) (by decide) (by decide), ↓R129j (j := 43) (by decide) (by decide), v1, v2, v3, v4, v5, v6, v7, v8, v9, v10, mrg]
  unfold subj at main
  exact main
theorem R149b (hb : ¬ pk M 142 5 = -1) : CL 149 [.ref 142] (mkh X s dh dl t M) Q ↔ Q (.inl none) (mkh X s dh dl t M) := by
  simp only [↓x_al_0, ↓c_123, ↓x_ne0, ↓x_rt, ↓c_128, ↓x_ls_1, ↓x_ll_1, ↓x_str, ↓c_129, ↓x_lcw0, ↓x_lcw1, ↓x_c, ↓x_go, ↓x_is_3, ↓x_il_3, ↓x_ne, ↓gi_142_4, ↓c_124, ↓c_130, ↓c_131, ↓x_gt, ↓c_145, ↓c_144, ↓n_149, ↓s_149_0, ↓s_149_8, ↓s_149_28, ↓s_149_43, ↓s_149_58, ↓s_149_73, ↓s_149_87, ↓s_149_102, ↓s_149_118, ↓s_149_134, ↓s_149_150, ↓s_149_166, ↓s_149_167, ↓s_149_183, ↓s_149_202, ↓s_149_214, ↓s_149_215, ↓bk_v, ↓bk_n, ↓bk_r, ↓pv_i, ↓pv_r, ↓pv_0, ↓pv_l, wz_pk, wz_ti, wz_wz, vI_wz, wz_id, wz_0, List.length_cons, List.length_nil, ↓reduceIte, true_and, and_true, Int.reduceLE, Int.reduceLT, Int.reduceEq, not_true_eq_false, not_false_eq_true, false_or, or_false, true_or, or_true, ite_not, Int.reduceNeg, Int32.reduceToInt, Nat.reduceAdd, Nat.reduceLeDiff, Nat.reduceLT, Nat.reduceEqDiff, Int.reduceAdd, Int.reduceSub, Int.reduceMul, Nat.zero_le, pk_po_ne, pk_po_eq, pk_po_ix, rI, ne_eq, ↓R123, hb, decide_false, bi_wz, bi_0, if_true]
end R84
