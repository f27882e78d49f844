section C52
variable {Q : MOut → MHp → Prop} {X : Nat × (Nat → Int32)} {s : Bool × Bool} {dh dl t : Nat} {M : Mem} {S : St} {p f n k : Int} {W : Int → Int}
theorem LRd.tx {x q : Int} (h : LRd S W k n p M) (h1 : wz x = x) : LRd S W k n x (txm M x q) := by
  obtain ⟨a, b, c, d, e⟩ := h
  exact ⟨a.tx, by rw [tx_1]; exact b, by rw [tx_2]; exact h1, by rw [tx_o (by decide)]; exact d, fun j u v => by rw [tx_o (by decide)]; exact e j u v⟩
theorem LRd.add {c b v : Int} (h : LRd S W k n p M) (hn : 0 ≤ S 69 1 ∧ S 69 1 < 300) (hc : wz c = c) (hb : wz b = b) (hv : wz v = v) : LRd (lawAdd S c b v) W k n p (po (po (po (po M 70 (S 69 1) c) 71 (S 69 1) b) 72 (S 69 1) v) 69 1 (S 69 1 + 1)) := by
  obtain ⟨g1, g2, g3, g4, g5⟩ := h
  exact ⟨g1.add hn hc hb hv, by rw [pk_po_ne (by decide), pk_po_ne (by decide), pk_po_ne (by decide), pk_po_ne (by decide)]; exact g2, by rw [pk_po_ne (by decide), pk_po_ne (by decide), pk_po_ne (by decide), pk_po_ne (by decide)]; exact g3, by rw [pk_po_ne (by decide), pk_po_ne (by decide), pk_po_ne (by decide), pk_po_ne (by decide)]; exact g4, fun j u v => by rw [pk_po_ne (by decide), pk_po_ne (by decide), pk_po_ne (by decide), pk_po_ne (by decide)]; exact g5 j u v⟩
theorem LQ.ok {r : LR} {x j k' : Int} {S' : St} {W' : Int → Int} {M' : Mem} (h : LQ X s dh t M Q n r) (e : r = (0, x, j, S', W', k')) (hL : LRd S' W' k' n x M') (h4 : pk M' 76 4 = (if j = 0 then 1 else 0)) (h5 : pk M' 76 5 = (if j = 2 then 1 else 0)) (hF : FC M M') : Q (.inl (some (vI 1))) (mkh X s dh (lB s) t M') := h.1 x j S' W' k' M' e hL h4 h5 hF
theorem LQ.no {r : LR} {i x j k' : Int} {S' : St} {W' : Int → Int} {M' : Mem} (h : LQ X s dh t M Q n r) (hi : ¬ i = 0) (e : r = (i, x, j, S', W', k')) (hF : FX S' M M' i x) : Q (.inl (some (vI 0))) (mkh X s dh (lB s) t M') := h.2 i x j S' W' k' M' hi e hF
theorem C51t {c b v e q : Int} (hL : LRd S W k n p M) (h4 : pk M 76 4 = 0) (h5 : pk M 76 5 = 0) (hs : 0 ≤ S 69 1 ∧ S 69 1 < 300) (hc : wz c = c) (hb : wz b = b) (hv : 0 ≤ v ∧ v ≤ 9999) (he : wz e = e) (hQ : ∀ M', LRd (lawAdd S c b v) W k n e M' → pk M' 76 4 = 0 → pk M' 76 5 = 0 → FC M M' → Q (rI 1) (mkh X s dh (lB s) t M')) : EX 51 (sx 51 86) [.ref 76, vI b, vI c, vI v] [] (mkh X s dh (lB s) t (txm M e q)) Q := by
  have d1 : ¬ v = -1 := by omega
  have wv : wz v = v := wz_id (by omega) (by omega)
  have hC1 := hL.1.tx (p := e) (f := q)
  have e0 := hQ (txm (po (po (po (po M 70 (S 69 1) c) 71 (S 69 1) b) 72 (S 69 1) v) 69 1 (S 69 1 + 1)) e q) ((hL.add hs hc hb wv).tx he) (by rw [tx_o (by decide), pk_po_ne (by decide), pk_po_ne (by decide), pk_po_ne (by decide), pk_po_ne (by decide)]; exact h4) (by rw [tx_o (by decide), pk_po_ne (by decide), pk_po_ne (by decide), pk_po_ne (by decide), pk_po_ne (by decide)]; exact h5) ((((FC.rfl.pw (by decide)).pw (by decide)).pw (by decide)).pw (by decide)).txm
  rw [s_51_86]
  simp (disch := omega) only [↓x_c, ↓x_is_2, ↓x_is_3, ↓x_il_1, ↓x_ne0, ↓x_al_0, ↓gr_76_0, ↓c_74, ↓x_go, ↓x_eq, ↓x_ne, ↓c_72, ↓x_eq0, ↓x_il_2, ↓c_73, ↓x_irz, ↓gd_76_1, ↓x_il_3, ↓c_41_lB, ↓n_51, ↓s_51_0, ↓s_51_22, ↓s_51_37, ↓s_51_53, ↓s_51_54, ↓s_51_74, ↓s_51_86, ↓s_51_105, ↓s_51_106, ↓bk_v, ↓bk_n, ↓bk_r, ↓pv_i, ↓pv_r, ↓pv_0, ↓pv_l, wz_pk, wz_ti, wz_wz, vI_wz, wz_id, wz_0, List.length_cons, List.length_nil, ↓reduceIte, true_and, and_true, Int.reduceLE, Int.reduceLT, Int.reduceEq, not_true_eq_false, not_false_eq_true, false_or, or_false, true_or, or_true, ite_not, Int.reduceNeg, Int32.reduceToInt, Nat.reduceAdd, Nat.reduceLeDiff, Nat.reduceLT, Nat.reduceEqDiff, Int.reduceAdd, Int.reduceSub, Int.reduceMul, Nat.zero_le, pk_po_ne, pk_po_eq, pk_po_ix, rI, ne_eq, ↓C41 hC1 hs, tx_po, wv, d1, if_false]
  exact e0
theorem FLD.pw {M' : Mem} {a : Nat} {i x k' y : Int} (h : FLD M M' k' y) (ha : a ≠ 2) : FLD (po M a i x) (po M' a i x) k' y := by
  refine ⟨fun b hb => ?_, ?_, ?_⟩
  · funext j
    unfold po
    rw [h.1 b hb]
  · rw [pk_po_ne (fun h => ha h.symm)]; exact h.2.1
  · rw [pk_po_ne (fun h => ha h.symm)]; exact h.2.2
theorem C51x {c b i x j' : Int} {W' : Int → Int} {M' : Mem} (hC : RC S M) (hs : 0 ≤ S 69 1 ∧ S 69 1 < 300) (hc : wz c = c) (hb : wz b = b) (hM : FLD M M' i x) (hQ : ∀ M2, FX (lawAdd S c b (-1)) M M2 i x → Q (rI 0) (mkh X s dh (lB s) t M2)) : EX 51 (sx 51 86) [.ref 76, vI b, vI c, vI (-1)] [] (mkh X s dh (lB s) t M') Q := by
  have g69 : ∀ u, pk M' 69 u = pk M 69 u := fun u => by unfold pk; rw [hM.1 69 (by decide)]
  have r1 : pk M' 69 1 = S 69 1 := by rw [g69]; exact hC.at 69 rfl 1
  have e0 := hQ (po (po (po (po M' 70 (S 69 1) c) 71 (S 69 1) b) 72 (S 69 1) (-1)) 69 1 (S 69 1 + 1)) ⟨_, hC.add hs hc hb rfl, (((FC.rfl.pw (by decide)).pw (by decide)).pw (by decide)).pw (by decide), (((hM.pw (by decide)).pw (by decide)).pw (by decide)).pw (by decide)⟩
  have e1 : ¬ 300 ≤ S 69 1 := by omega
  have e2 : S 69 1 < 300 := hs.2
  have e3 : 0 ≤ S 69 1 := hs.1
  rw [s_51_86]
  simp (disch := omega) only [↓x_c, ↓x_is_2, ↓x_is_3, ↓x_il_1, ↓x_ne0, ↓x_al_0, ↓gr_76_0, ↓c_74, ↓x_go, ↓x_eq, ↓x_ne, ↓c_72, ↓x_eq0, ↓x_il_2, ↓c_73, ↓x_irz, ↓gd_76_1, ↓x_il_3, ↓c_41_lB, ↓n_51, ↓s_51_0, ↓s_51_22, ↓s_51_37, ↓s_51_53, ↓s_51_54, ↓s_51_74, ↓s_51_86, ↓s_51_105, ↓s_51_106, ↓bk_v, ↓bk_n, ↓bk_r, ↓pv_i, ↓pv_r, ↓pv_0, ↓pv_l, wz_pk, wz_ti, wz_wz, vI_wz, wz_id, wz_0, List.length_cons, List.length_nil, ↓reduceIte, true_and, and_true, Int.reduceLE, Int.reduceLT, Int.reduceEq, not_true_eq_false, not_false_eq_true, false_or, or_false, true_or, or_true, ite_not, Int.reduceNeg, Int32.reduceToInt, Nat.reduceAdd, Nat.reduceLeDiff, Nat.reduceLT, Nat.reduceEqDiff, Int.reduceAdd, Int.reduceSub, Int.reduceMul, Nat.zero_le, pk_po_ne, pk_po_eq, pk_po_ix, rI, ne_eq]
  simp (disch := omega) only [↓x_al_0, ↓gi_lA_1, ↓gi_lB_1, ↓x_c, ↓x_ge, ↓gr_lA_2, ↓gr_lB_2, ↓x_il_1, ↓gr_lA_3, ↓gr_lB_3, ↓x_il_2, ↓gr_lA_4, ↓gr_lB_4, ↓x_il_3, ↓x_dup_i, ↓x_dup_r, ↓x_iadd, ↓pi_lA_1, ↓pi_lB_1, ↓x_rt, ↓st_lA_1, ↓st_lA_2, ↓st_lA_3, ↓st_lB_1, ↓st_lB_2, ↓st_lB_3, ↓n_41, ↓s_41_0, ↓s_41_50, ↓pv_i, ↓pv_r, ↓pv_0, ↓pv_l, wz_pk, wz_ti, wz_wz, vI_wz, wz_id, wz_0, List.length_cons, List.length_nil, ↓reduceIte, true_and, and_true, Int.reduceLE, Int.reduceLT, Int.reduceEq, not_true_eq_false, not_false_eq_true, false_or, or_false, true_or, or_true, ite_not, Int.reduceNeg, Int32.reduceToInt, Nat.reduceAdd, Nat.reduceLeDiff, Nat.reduceLT, Nat.reduceEqDiff, Int.reduceAdd, Int.reduceSub, Int.reduceMul, Nat.zero_le, pk_po_ne, pk_po_eq, pk_po_ix, rI, ne_eq, r1, e1, e2, e3, if_false]
  simp (disch := omega) only [↓x_c, ↓x_is_2, ↓x_is_3, ↓x_il_1, ↓x_ne0, ↓x_al_0, ↓gr_76_0, ↓c_74, ↓x_go, ↓x_eq, ↓x_ne, ↓c_72, ↓x_eq0, ↓x_il_2, ↓c_73, ↓x_irz, ↓gd_76_1, ↓x_il_3, ↓c_41_lB, ↓n_51, ↓s_51_0, ↓s_51_22, ↓s_51_37, ↓s_51_53, ↓s_51_54, ↓s_51_74, ↓s_51_86, ↓s_51_105, ↓s_51_106, ↓bk_v, ↓bk_n, ↓bk_r, ↓pv_i, ↓pv_r, ↓pv_0, ↓pv_l, wz_pk, wz_ti, wz_wz, vI_wz, wz_id, wz_0, List.length_cons, List.length_nil, ↓reduceIte, true_and, and_true, Int.reduceLE, Int.reduceLT, Int.reduceEq, not_true_eq_false, not_false_eq_true, false_or, or_false, true_or, or_true, ite_not, Int.reduceNeg, Int32.reduceToInt, Nat.reduceAdd, Nat.reduceLeDiff, Nat.reduceLT, Nat.reduceEqDiff, Int.reduceAdd, Int.reduceSub, Int.reduceMul, Nat.zero_le, pk_po_ne, pk_po_eq, pk_po_ix, rI, ne_eq]
  exact e0
theorem C51 {b e q : Int} (hL : LRd S W k n p M) (h4 : pk M 76 4 = 0) (h5 : pk M 76 5 = 0) (h0 : 0 ≤ e) (h1 : e ≤ n) (h2 : n ≤ 600) (hs : 0 ≤ S 69 1 ∧ S 69 1 < 300) (hb : 0 ≤ b ∧ b ≤ 9) (hQ : LQ X s dh t M Q n (l_atom S W k n b e)) : CL 51 [.ref 76, vI b] (mkh X s dh (lB s) t (txm M e q)) Q := by
  have hC := hL.1
  have hn := hL.2.1
  have wb : wz b = b := wz_id (by omega) (by omega)
  -- a number, and the end
  have num : ∀ (c lo hi u g : Int) (pc : Nat), wz c = c → 0 ≤ lo → hi ≤ 9999 → wz lo = lo → wz hi = hi → 0 ≤ u → u ≤ n → l_atom S W k n b e = l_num S W k c b (rdN S n lo hi u) → ∀ is, (∀ h v, EX 51 is [.ref 76, vI b, vI c, vI 1] [vI v] h Q ↔ EX 51 (sx 51 86) [.ref 76, vI b, vI c, vI v] [] h Q) → CL 74 [.ref 2, vI lo, vI hi] (mkh X s dh (lB s) t (txm M u g)) (bk 51 pc is [.ref 76, vI b, vI c, vI 1] [] Q) := by
    intro c lo hi u g pc wc l0 hh wlo whi u0 u1 hla is hE
    refine C74 hC hn u0 u1 h2 wlo whi ?_ ?_
    · intro e1 v hr
      obtain ⟨a1, a2⟩ := rdN_ok u1 hr
      simp only [rI, bk_v, hE]
      refine C51t hL h4 h5 hs wc wb ⟨by omega, by omega⟩ (wz_id (by omega) (by omega)) ?_
      intro M' hL' g4 g5 hF
      exact hQ.ok (j := 1) (by rw [hla, hr]; rfl) hL' g4 g5 hF
    · intro i x hi hr M' hM
      simp only [rI, bk_v, hE]
      refine C51x (j' := 1) (W' := W) hC hs wc wb hM ?_
      intro M2 hX
      exact hQ.no (j := 1) (W' := W) (k' := k) hi (by rw [hla, hr]; simp only [l_num, if_neg hi]) hX
  by_cases b0 : b = 0
  · subst b0
    simp (disch := omega) only [↓x_c, ↓x_is_2, ↓x_is_3, ↓x_il_1, ↓x_ne0, ↓x_al_0, ↓gr_76_0, ↓c_74, ↓x_go, ↓x_eq, ↓x_ne, ↓c_72, ↓x_eq0, ↓x_il_2, ↓c_73, ↓x_irz, ↓gd_76_1, ↓x_il_3, ↓c_41_lB, ↓n_51, ↓s_51_0, ↓s_51_22, ↓s_51_37, ↓s_51_53, ↓s_51_54, ↓s_51_74, ↓s_51_105, ↓s_51_106, ↓bk_v, ↓bk_n, ↓bk_r, ↓pv_i, ↓pv_r, ↓pv_0, ↓pv_l, wz_pk, wz_ti, wz_wz, vI_wz, wz_id, wz_0, List.length_cons, List.length_nil, ↓reduceIte, true_and, and_true, Int.reduceLE, Int.reduceLT, Int.reduceEq, not_true_eq_false, not_false_eq_true, false_or, or_false, true_or, or_true, ite_not, Int.reduceNeg, Int32.reduceToInt, Nat.reduceAdd, Nat.reduceLeDiff, Nat.reduceLT, Nat.reduceEqDiff, Int.reduceAdd, Int.reduceSub, Int.reduceMul, Nat.zero_le, pk_po_ne, pk_po_eq, pk_po_ix, rI, ne_eq, if_true]
    exact num 6 0 5 e q _ rfl (by decide) (by decide) rfl rfl h0 h1 (by rw [l_atom, if_pos rfl]) _ (fun h v => by simp only [↓x_c, ↓x_is_2, ↓x_is_3, ↓x_il_1, ↓x_ne0, ↓x_al_0, ↓gr_76_0, ↓c_74, ↓x_go, ↓x_eq, ↓x_ne, ↓c_72, ↓x_eq0, ↓x_il_2, ↓c_73, ↓x_irz, ↓gd_76_1, ↓x_il_3, ↓c_41_lB, ↓n_51, ↓s_51_0, ↓s_51_22, ↓s_51_37, ↓s_51_53, ↓s_51_54, ↓s_51_74, ↓s_51_105, ↓s_51_106, ↓bk_v, ↓bk_n, ↓bk_r, ↓pv_i, ↓pv_r, ↓pv_0, ↓pv_l, wz_pk, wz_ti, wz_wz, vI_wz, wz_id, wz_0, List.length_cons, List.length_nil, ↓reduceIte, true_and, and_true, Int.reduceLE, Int.reduceLT, Int.reduceEq, not_true_eq_false, not_false_eq_true, false_or, or_false, true_or, or_true, ite_not, Int.reduceNeg, Int32.reduceToInt, Nat.reduceAdd, Nat.reduceLeDiff, Nat.reduceLT, Nat.reduceEqDiff, Int.reduceAdd, Int.reduceSub, Int.reduceMul, Nat.zero_le, pk_po_ne, pk_po_eq, pk_po_ix, rI, ne_eq])
  · by_cases b3 : b ≤ 3
    · have hs2 := sk_rng (S := S) h1
      have hb3 : b = 1 ∨ b = 2 ∨ b = 3 := by omega
      have la1 : sk S n e < n ∧ S 1 (sk S n e) = 60 → l_atom S W k n b e = l_num S W k 4 b (rdN S n 0 9999 (sk S n e + 1)) := fun h => by rw [l_atom, if_neg b0, if_pos b3, if_pos h]
      have la2 : ¬ (sk S n e < n ∧ S 1 (sk S n e) = 60) → sk S n e < n ∧ S 1 (sk S n e) = 62 → l_atom S W k n b e = l_num S W k 5 b (rdN S n 0 9999 (sk S n e + 1)) := fun h h' => by rw [l_atom, if_neg b0, if_pos b3, if_neg h, if_pos h']
      have la3 : ¬ (sk S n e < n ∧ S 1 (sk S n e) = 60) → ¬ (sk S n e < n ∧ S 1 (sk S n e) = 62) → l_atom S W k n b e = (1, sk S n e, 1, S, W, k) := fun h h' => by rw [l_atom, if_neg b0, if_pos b3, if_neg h, if_neg h']
      have mid : EX 51 (sx 51 37) [.ref 76, vI b, vI 6, vI 1] [] (mkh X s dh (lB s) t (txm M e q)) Q := by
        rw [s_51_37]
        by_cases c1 : sk S n e < n ∧ S 1 (sk S n e) = 60
        · simp (disch := omega) only [↓x_c, ↓x_is_2, ↓x_is_3, ↓x_il_1, ↓x_ne0, ↓x_al_0, ↓gr_76_0, ↓c_74, ↓x_go, ↓x_eq, ↓x_ne, ↓c_72, ↓x_eq0, ↓x_il_2, ↓c_73, ↓x_irz, ↓gd_76_1, ↓x_il_3, ↓c_41_lB, ↓n_51, ↓s_51_0, ↓s_51_22, ↓s_51_37, ↓s_51_53, ↓s_51_54, ↓s_51_74, ↓s_51_105, ↓s_51_106, ↓bk_v, ↓bk_n, ↓bk_r, ↓pv_i, ↓pv_r, ↓pv_0, ↓pv_l, wz_pk, wz_ti, wz_wz, vI_wz, wz_id, wz_0, List.length_cons, List.length_nil, ↓reduceIte, true_and, and_true, Int.reduceLE, Int.reduceLT, Int.reduceEq, not_true_eq_false, not_false_eq_true, false_or, or_false, true_or, or_true, ite_not, Int.reduceNeg, Int32.reduceToInt, Nat.reduceAdd, Nat.reduceLeDiff, Nat.reduceLT, Nat.reduceEqDiff, Int.reduceAdd, Int.reduceSub, Int.reduceMul, Nat.zero_le, pk_po_ne, pk_po_eq, pk_po_ix, rI, ne_eq, ↓C72 hC hn h0 h1 h2 (show wz 60 = 60 from rfl), c1, and_self, if_true, if_false]
          exact num 4 0 9999 (sk S n e + 1) (sk S n e) _ rfl (by decide) (by decide) rfl rfl (by omega) (by omega) (la1 c1) _ (fun h v => by simp only [↓x_c, ↓x_is_2, ↓x_is_3, ↓x_il_1, ↓x_ne0, ↓x_al_0, ↓gr_76_0, ↓c_74, ↓x_go, ↓x_eq, ↓x_ne, ↓c_72, ↓x_eq0, ↓x_il_2, ↓c_73, ↓x_irz, ↓gd_76_1, ↓x_il_3, ↓c_41_lB, ↓n_51, ↓s_51_0, ↓s_51_22, ↓s_51_37, ↓s_51_53, ↓s_51_54, ↓s_51_74, ↓s_51_105, ↓s_51_106, ↓bk_v, ↓bk_n, ↓bk_r, ↓pv_i, ↓pv_r, ↓pv_0, ↓pv_l, wz_pk, wz_ti, wz_wz, vI_wz, wz_id, wz_0, List.length_cons, List.length_nil, ↓reduceIte, true_and, and_true, Int.reduceLE, Int.reduceLT, Int.reduceEq, not_true_eq_false, not_false_eq_true, false_or, or_false, true_or, or_true, ite_not, Int.reduceNeg, Int32.reduceToInt, Nat.reduceAdd, Nat.reduceLeDiff, Nat.reduceLT, Nat.reduceEqDiff, Int.reduceAdd, Int.reduceSub, Int.reduceMul, Nat.zero_le, pk_po_ne, pk_po_eq, pk_po_ix, rI, ne_eq])
        · simp (disch := omega) only [↓x_c, ↓x_is_2, ↓x_is_3, ↓x_il_1, ↓x_ne0, ↓x_al_0, ↓gr_76_0, ↓c_74, ↓x_go, ↓x_eq, ↓x_ne, ↓c_72, ↓x_eq0, ↓x_il_2, ↓c_73, ↓x_irz, ↓gd_76_1, ↓x_il_3, ↓c_41_lB, ↓n_51, ↓s_51_0, ↓s_51_22, ↓s_51_37, ↓s_51_53, ↓s_51_54, ↓s_51_74, ↓s_51_105, ↓s_51_106, ↓bk_v, ↓bk_n, ↓bk_r, ↓pv_i, ↓pv_r, ↓pv_0, ↓pv_l, wz_pk, wz_ti, wz_wz, vI_wz, wz_id, wz_0, List.length_cons, List.length_nil, ↓reduceIte, true_and, and_true, Int.reduceLE, Int.reduceLT, Int.reduceEq, not_true_eq_false, not_false_eq_true, false_or, or_false, true_or, or_true, ite_not, Int.reduceNeg, Int32.reduceToInt, Nat.reduceAdd, Nat.reduceLeDiff, Nat.reduceLT, Nat.reduceEqDiff, Int.reduceAdd, Int.reduceSub, Int.reduceMul, Nat.zero_le, pk_po_ne, pk_po_eq, pk_po_ix, rI, ne_eq, ↓C72 hC hn h0 h1 h2 (show wz 60 = 60 from rfl), c1, if_true, if_false]
          have ss := sk_self (S := S) (n := n) (p := sk S n e) sk_end
          refine C73 hC hn (by omega) hs2.2 h2 rfl ?_ ?_
          · rw [ss]
            intro c2
            simp (disch := omega) only [↓x_c, ↓x_is_2, ↓x_is_3, ↓x_il_1, ↓x_ne0, ↓x_al_0, ↓gr_76_0, ↓c_74, ↓x_go, ↓x_eq, ↓x_ne, ↓c_72, ↓x_eq0, ↓x_il_2, ↓c_73, ↓x_irz, ↓gd_76_1, ↓x_il_3, ↓c_41_lB, ↓n_51, ↓s_51_0, ↓s_51_22, ↓s_51_37, ↓s_51_53, ↓s_51_54, ↓s_51_74, ↓s_51_105, ↓s_51_106, ↓bk_v, ↓bk_n, ↓bk_r, ↓pv_i, ↓pv_r, ↓pv_0, ↓pv_l, wz_pk, wz_ti, wz_wz, vI_wz, wz_id, wz_0, List.length_cons, List.length_nil, ↓reduceIte, true_and, and_true, Int.reduceLE, Int.reduceLT, Int.reduceEq, not_true_eq_false, not_false_eq_true, false_or, or_false, true_or, or_true, ite_not, Int.reduceNeg, Int32.reduceToInt, Nat.reduceAdd, Nat.reduceLeDiff, Nat.reduceLT, Nat.reduceEqDiff, Int.reduceAdd, Int.reduceSub, Int.reduceMul, Nat.zero_le, pk_po_ne, pk_po_eq, pk_po_ix, rI, ne_eq]
            exact num 5 0 9999 (sk S n e + 1) (sk S n e) _ rfl (by decide) (by decide) rfl rfl (by omega) (by omega) (la2 c1 c2) _ (fun h v => by simp only [↓x_c, ↓x_is_2, ↓x_is_3, ↓x_il_1, ↓x_ne0, ↓x_al_0, ↓gr_76_0, ↓c_74, ↓x_go, ↓x_eq, ↓x_ne, ↓c_72, ↓x_eq0, ↓x_il_2, ↓c_73, ↓x_irz, ↓gd_76_1, ↓x_il_3, ↓c_41_lB, ↓n_51, ↓s_51_0, ↓s_51_22, ↓s_51_37, ↓s_51_53, ↓s_51_54, ↓s_51_74, ↓s_51_105, ↓s_51_106, ↓bk_v, ↓bk_n, ↓bk_r, ↓pv_i, ↓pv_r, ↓pv_0, ↓pv_l, wz_pk, wz_ti, wz_wz, vI_wz, wz_id, wz_0, List.length_cons, List.length_nil, ↓reduceIte, true_and, and_true, Int.reduceLE, Int.reduceLT, Int.reduceEq, not_true_eq_false, not_false_eq_true, false_or, or_false, true_or, or_true, ite_not, Int.reduceNeg, Int32.reduceToInt, Nat.reduceAdd, Nat.reduceLeDiff, Nat.reduceLT, Nat.reduceEqDiff, Int.reduceAdd, Int.reduceSub, Int.reduceMul, Nat.zero_le, pk_po_ne, pk_po_eq, pk_po_ix, rI, ne_eq])
          · rw [ss]
            intro c2 M' hM
            have e1 := hQ.no (i := 1) (by decide) (la3 c1 c2) ⟨M, hC, FC.rfl, hM⟩
            simp (disch := omega) only [↓x_c, ↓x_is_2, ↓x_is_3, ↓x_il_1, ↓x_ne0, ↓x_al_0, ↓gr_76_0, ↓c_74, ↓x_go, ↓x_eq, ↓x_ne, ↓c_72, ↓x_eq0, ↓x_il_2, ↓c_73, ↓x_irz, ↓gd_76_1, ↓x_il_3, ↓c_41_lB, ↓n_51, ↓s_51_0, ↓s_51_22, ↓s_51_37, ↓s_51_53, ↓s_51_54, ↓s_51_74, ↓s_51_105, ↓s_51_106, ↓bk_v, ↓bk_n, ↓bk_r, ↓pv_i, ↓pv_r, ↓pv_0, ↓pv_l, wz_pk, wz_ti, wz_wz, vI_wz, wz_id, wz_0, List.length_cons, List.length_nil, ↓reduceIte, true_and, and_true, Int.reduceLE, Int.reduceLT, Int.reduceEq, not_true_eq_false, not_false_eq_true, false_or, or_false, true_or, or_true, ite_not, Int.reduceNeg, Int32.reduceToInt, Nat.reduceAdd, Nat.reduceLeDiff, Nat.reduceLT, Nat.reduceEqDiff, Int.reduceAdd, Int.reduceSub, Int.reduceMul, Nat.zero_le, pk_po_ne, pk_po_eq, pk_po_ix, rI, ne_eq]
            exact e1
      rcases hb3 with h | h | h
      · subst h
        simp (disch := omega) only [↓x_c, ↓x_is_2, ↓x_is_3, ↓x_il_1, ↓x_ne0, ↓x_al_0, ↓gr_76_0, ↓c_74, ↓x_go, ↓x_eq, ↓x_ne, ↓c_72, ↓x_eq0, ↓x_il_2, ↓c_73, ↓x_irz, ↓gd_76_1, ↓x_il_3, ↓c_41_lB, ↓n_51, ↓s_51_0, ↓s_51_22, ↓s_51_53, ↓s_51_54, ↓s_51_74, ↓s_51_105, ↓s_51_106, ↓bk_v, ↓bk_n, ↓bk_r, ↓pv_i, ↓pv_r, ↓pv_0, ↓pv_l, wz_pk, wz_ti, wz_wz, vI_wz, wz_id, wz_0, List.length_cons, List.length_nil, ↓reduceIte, true_and, and_true, Int.reduceLE, Int.reduceLT, Int.reduceEq, not_true_eq_false, not_false_eq_true, false_or, or_false, true_or, or_true, ite_not, Int.reduceNeg, Int32.reduceToInt, Nat.reduceAdd, Nat.reduceLeDiff, Nat.reduceLT, Nat.reduceEqDiff, Int.reduceAdd, Int.reduceSub, Int.reduceMul, Nat.zero_le, pk_po_ne, pk_po_eq, pk_po_ix, rI, ne_eq]
        exact mid
      · subst h
        simp (disch := omega) only [↓x_c, ↓x_is_2, ↓x_is_3, ↓x_il_1, ↓x_ne0, ↓x_al_0, ↓gr_76_0, ↓c_74, ↓x_go, ↓x_eq, ↓x_ne, ↓c_72, ↓x_eq0, ↓x_il_2, ↓c_73, ↓x_irz, ↓gd_76_1, ↓x_il_3, ↓c_41_lB, ↓n_51, ↓s_51_0, ↓s_51_22, ↓s_51_53, ↓s_51_54, ↓s_51_74, ↓s_51_105, ↓s_51_106, ↓bk_v, ↓bk_n, ↓bk_r, ↓pv_i, ↓pv_r, ↓pv_0, ↓pv_l, wz_pk, wz_ti, wz_wz, vI_wz, wz_id, wz_0, List.length_cons, List.length_nil, ↓reduceIte, true_and, and_true, Int.reduceLE, Int.reduceLT, Int.reduceEq, not_true_eq_false, not_false_eq_true, false_or, or_false, true_or, or_true, ite_not, Int.reduceNeg, Int32.reduceToInt, Nat.reduceAdd, Nat.reduceLeDiff, Nat.reduceLT, Nat.reduceEqDiff, Int.reduceAdd, Int.reduceSub, Int.reduceMul, Nat.zero_le, pk_po_ne, pk_po_eq, pk_po_ix, rI, ne_eq]
        exact mid
      · subst h
        simp (disch := omega) only [↓x_c, ↓x_is_2, ↓x_is_3, ↓x_il_1, ↓x_ne0, ↓x_al_0, ↓gr_76_0, ↓c_74, ↓x_go, ↓x_eq, ↓x_ne, ↓c_72, ↓x_eq0, ↓x_il_2, ↓c_73, ↓x_irz, ↓gd_76_1, ↓x_il_3, ↓c_41_lB, ↓n_51, ↓s_51_0, ↓s_51_22, ↓s_51_53, ↓s_51_54, ↓s_51_74, ↓s_51_105, ↓s_51_106, ↓bk_v, ↓bk_n, ↓bk_r, ↓pv_i, ↓pv_r, ↓pv_0, ↓pv_l, wz_pk, wz_ti, wz_wz, vI_wz, wz_id, wz_0, List.length_cons, List.length_nil, ↓reduceIte, true_and, and_true, Int.reduceLE, Int.reduceLT, Int.reduceEq, not_true_eq_false, not_false_eq_true, false_or, or_false, true_or, or_true, ite_not, Int.reduceNeg, Int32.reduceToInt, Nat.reduceAdd, Nat.reduceLeDiff, Nat.reduceLT, Nat.reduceEqDiff, Int.reduceAdd, Int.reduceSub, Int.reduceMul, Nat.zero_le, pk_po_ne, pk_po_eq, pk_po_ix, rI, ne_eq]
        exact mid
    · have b1 : ¬ b = 1 := by omega
      have b2 : ¬ b = 2 := by omega
      have b33 : ¬ b = 3 := by omega
      simp (disch := omega) only [↓x_c, ↓x_is_2, ↓x_is_3, ↓x_il_1, ↓x_ne0, ↓x_al_0, ↓gr_76_0, ↓c_74, ↓x_go, ↓x_eq, ↓x_ne, ↓c_72, ↓x_eq0, ↓x_il_2, ↓c_73, ↓x_irz, ↓gd_76_1, ↓x_il_3, ↓c_41_lB, ↓n_51, ↓s_51_0, ↓s_51_22, ↓s_51_53, ↓s_51_54, ↓s_51_74, ↓s_51_105, ↓s_51_106, ↓bk_v, ↓bk_n, ↓bk_r, ↓pv_i, ↓pv_r, ↓pv_0, ↓pv_l, wz_pk, wz_ti, wz_wz, vI_wz, wz_id, wz_0, List.length_cons, List.length_nil, ↓reduceIte, true_and, and_true, Int.reduceLE, Int.reduceLT, Int.reduceEq, not_true_eq_false, not_false_eq_true, false_or, or_false, true_or, or_true, ite_not, Int.reduceNeg, Int32.reduceToInt, Nat.reduceAdd, Nat.reduceLeDiff, Nat.reduceLT, Nat.reduceEqDiff, Int.reduceAdd, Int.reduceSub, Int.reduceMul, Nat.zero_le, pk_po_ne, pk_po_eq, pk_po_ix, rI, ne_eq, b0, b1, b2, b33, if_false, wb]
      refine C51t hL h4 h5 hs rfl wb ⟨by decide, by decide⟩ (wz_id (by omega) (by omega)) ?_
      intro M' hL' g4 g5 hF
      exact hQ.ok (j := 1) (by rw [l_atom, if_neg b0, if_neg b3]) hL' g4 g5 hF
theorem LRd.at2 {x : Int} (h : LRd S W k n p M) : txm M p (pk M 2 3) = M := txm_self h.2.2.1
theorem LRd.in {M' : Mem} {x : Int} (h : LRd S W k n x M') (h2 : M' 2 = M 2) (h3 : pk M 2 2 = p) : LRd S W k n p M' := by
  obtain ⟨a, b, c, d, e⟩ := h
  refine ⟨a, b, ?_, d, e⟩
  unfold pk
  rw [h2]
  exact h3
theorem subj_rng {q e : Int} : -1 ≤ subj S q e ∧ subj S q e ≤ 9 := by
  unfold subj
  repeat' split
  all_goals omega
theorem C49 (hL : LRd S W k n p M) (h4 : pk M 76 4 = 1) (h5 : pk M 76 5 = 0) (h0 : 0 ≤ p) (h1 : p ≤ n) (h2 : n ≤ 300) (hs : 0 ≤ S 69 1 ∧ 0 ≤ k ∧ S 69 1 + k ≤ p) (hQ : LQ X s dh t M Q n (l_ahead S W k n p)) : CL 49 [.ref 76] (mkh X s dh (lB s) t M) Q := by
  have hC := hL.1
  have hn := hL.2.1
  have hs2 := sk_rng (S := S) h1
  have hw2 := we_rng (S := S) hs2.2
  have ss := sk_self (S := S) (n := n) (p := sk S n p) sk_end
  generalize hq : sk S n p = q at *
  generalize hee : we S n q = e at *
  rw [← hL.at2 (x := 0)]
  have e72 := fun (Q' : MOut → MHp → Prop) => C72 (Q := Q') (X := X) (s := s) (dh := dh) (dl := lB s) (t := t) (f := pk M 2 3) hC hn h0 h1 (by omega : n ≤ 600) (show wz 91 = 91 from rfl)
  have e70 := fun (Q' : MOut → MHp → Prop) => C70 (Q := Q') (X := X) (s := s) (dh := dh) (dl := lB s) (t := t) (f := q) hC hn (p := q) (by omega) hs2.2 (by omega : n ≤ 600)
  rw [ss, hee] at e70
  rw [hq] at e72
  by_cases c1 : q < n ∧ S 1 q = 91
  · simp (disch := omega) only [↓x_al_0, ↓gr_76_0, ↓x_c, ↓c_72, ↓x_eq0, ↓c_53, ↓x_irz, ↓c_70, ↓x_str, ↓c_71, ↓c_50, ↓x_is_1, ↓x_il_1, ↓x_ne, ↓c_68, ↓pz_76_4, ↓c_51, ↓n_49, ↓s_49_0, ↓s_49_19, ↓s_49_45, ↓s_49_64, ↓bk_v, ↓bk_n, ↓bk_r, ↓pv_i, ↓pv_r, ↓pv_0, ↓pv_l, wz_pk, wz_ti, wz_wz, vI_wz, wz_id, wz_0, List.length_cons, List.length_nil, ↓reduceIte, true_and, and_true, Int.reduceLE, Int.reduceLT, Int.reduceEq, not_true_eq_false, not_false_eq_true, false_or, or_false, true_or, or_true, ite_not, Int.reduceNeg, Int32.reduceToInt, Nat.reduceAdd, Nat.reduceLeDiff, Nat.reduceLT, Nat.reduceEqDiff, Int.reduceAdd, Int.reduceSub, Int.reduceMul, Nat.zero_le, pk_po_ne, pk_po_eq, pk_po_ix, rI, ne_eq, ↓e72, c1, and_self, if_true, if_false]
    refine C53 (hL.tx (x := q + 1) (q := q) (wz_id (by omega) (by omega))) ⟨by omega, by omega⟩ rfl ?_
    intro M' hL' g4 g5 hF h22
    have e1 := hQ.ok (j := 0) (by rw [l_ahead, hq, if_pos c1]) hL' (by rw [g4, tx_o (by decide)]; exact h4) (by rw [g5, tx_o (by decide)]; exact h5) (FC.rfl.txm.trans hF)
    simp (disch := omega) only [↓x_al_0, ↓gr_76_0, ↓x_c, ↓c_72, ↓x_eq0, ↓c_53, ↓x_irz, ↓c_70, ↓x_str, ↓c_71, ↓c_50, ↓x_is_1, ↓x_il_1, ↓x_ne, ↓c_68, ↓pz_76_4, ↓c_51, ↓n_49, ↓s_49_0, ↓s_49_19, ↓s_49_45, ↓s_49_64, ↓bk_v, ↓bk_n, ↓bk_r, ↓pv_i, ↓pv_r, ↓pv_0, ↓pv_l, wz_pk, wz_ti, wz_wz, vI_wz, wz_id, wz_0, List.length_cons, List.length_nil, ↓reduceIte, true_and, and_true, Int.reduceLE, Int.reduceLT, Int.reduceEq, not_true_eq_false, not_false_eq_true, false_or, or_false, true_or, or_true, ite_not, Int.reduceNeg, Int32.reduceToInt, Nat.reduceAdd, Nat.reduceLeDiff, Nat.reduceLT, Nat.reduceEqDiff, Int.reduceAdd, Int.reduceSub, Int.reduceMul, Nat.zero_le, pk_po_ne, pk_po_eq, pk_po_ix, rI, ne_eq]
    exact e1
  · have i10 := fun (Q' : MOut → MHp → Prop) => C71 (Q := Q') (X := X) (s := s) (dh := dh) (dl := lB s) (t := t) (j := 10) (q := q) (e := e) hC (by omega) hw2.1 (by omega) (by decide) (by decide) (by decide)
    by_cases c2 : isW S q e (P_txt 10) = true
    · simp (disch := omega) only [↓x_al_0, ↓gr_76_0, ↓x_c, ↓c_72, ↓x_eq0, ↓c_53, ↓x_irz, ↓c_70, ↓x_str, ↓c_71, ↓c_50, ↓x_is_1, ↓x_il_1, ↓x_ne, ↓c_68, ↓pz_76_4, ↓c_51, ↓n_49, ↓s_49_0, ↓s_49_19, ↓s_49_45, ↓s_49_64, ↓bk_v, ↓bk_n, ↓bk_r, ↓pv_i, ↓pv_r, ↓pv_0, ↓pv_l, wz_pk, wz_ti, wz_wz, vI_wz, wz_id, wz_0, List.length_cons, List.length_nil, ↓reduceIte, true_and, and_true, Int.reduceLE, Int.reduceLT, Int.reduceEq, not_true_eq_false, not_false_eq_true, false_or, or_false, true_or, or_true, ite_not, Int.reduceNeg, Int32.reduceToInt, Nat.reduceAdd, Nat.reduceLeDiff, Nat.reduceLT, Nat.reduceEqDiff, Int.reduceAdd, Int.reduceSub, Int.reduceMul, Nat.zero_le, pk_po_ne, pk_po_eq, pk_po_ix, rI, ne_eq, ↓e72, c1, if_true, if_false, ↓e70, ↓i10, c2, bi_wz, bi_0, Bool.true_eq_false]
      have he0 : q < e := by
        have : e - q = (P_txt 10).length := by unfold isW at c2; simp at c2; exact c2.1
        have : (P_txt 10).length = 3 := rfl
        omega
      refine C53 (hL.tx (x := e) (q := q) (wz_id (by omega) (by omega))) ⟨by omega, by omega⟩ rfl ?_
      intro M' hL' g4 g5 hF h22
      have e1 := hQ.ok (j := 0) (by rw [l_ahead, hq, hee, if_neg c1, if_pos c2]) hL' (by rw [g4, tx_o (by decide)]; exact h4) (by rw [g5, tx_o (by decide)]; exact h5) (FC.rfl.txm.trans hF)
      simp (disch := omega) only [↓x_al_0, ↓gr_76_0, ↓x_c, ↓c_72, ↓x_eq0, ↓c_53, ↓x_irz, ↓c_70, ↓x_str, ↓c_71, ↓c_50, ↓x_is_1, ↓x_il_1, ↓x_ne, ↓c_68, ↓pz_76_4, ↓c_51, ↓n_49, ↓s_49_0, ↓s_49_19, ↓s_49_45, ↓s_49_64, ↓bk_v, ↓bk_n, ↓bk_r, ↓pv_i, ↓pv_r, ↓pv_0, ↓pv_l, wz_pk, wz_ti, wz_wz, vI_wz, wz_id, wz_0, List.length_cons, List.length_nil, ↓reduceIte, true_and, and_true, Int.reduceLE, Int.reduceLT, Int.reduceEq, not_true_eq_false, not_false_eq_true, false_or, or_false, true_or, or_true, ite_not, Int.reduceNeg, Int32.reduceToInt, Nat.reduceAdd, Nat.reduceLeDiff, Nat.reduceLT, Nat.reduceEqDiff, Int.reduceAdd, Int.reduceSub, Int.reduceMul, Nat.zero_le, pk_po_ne, pk_po_eq, pk_po_ix, rI, ne_eq]
      exact e1
    · have c2' : isW S q e (P_txt 10) = false := by simpa using c2
      have e50 := fun (Q' : MOut → MHp → Prop) => C50 (Q := Q') (X := X) (s := s) (dh := dh) (dl := lB s) (t := t) (q := q) (e := e) hC (by omega) hw2.1 (by omega)
      have sr := subj_rng (S := S) (q := q) (e := e)
      have ws : wz (subj S q e) = subj S q e := wz_id (by omega) (by omega)
      by_cases c3 : subj S q e = -1
      · simp (disch := omega) only [↓x_al_0, ↓gr_76_0, ↓x_c, ↓c_72, ↓x_eq0, ↓c_53, ↓x_irz, ↓c_70, ↓x_str, ↓c_71, ↓c_50, ↓x_is_1, ↓x_il_1, ↓x_ne, ↓c_68, ↓pz_76_4, ↓c_51, ↓n_49, ↓s_49_0, ↓s_49_19, ↓s_49_45, ↓s_49_64, ↓bk_v, ↓bk_n, ↓bk_r, ↓pv_i, ↓pv_r, ↓pv_0, ↓pv_l, wz_pk, wz_ti, wz_wz, vI_wz, wz_id, wz_0, List.length_cons, List.length_nil, ↓reduceIte, true_and, and_true, Int.reduceLE, Int.reduceLT, Int.reduceEq, not_true_eq_false, not_false_eq_true, false_or, or_false, true_or, or_true, ite_not, Int.reduceNeg, Int32.reduceToInt, Nat.reduceAdd, Nat.reduceLeDiff, Nat.reduceLT, Nat.reduceEqDiff, Int.reduceAdd, Int.reduceSub, Int.reduceMul, Nat.zero_le, pk_po_ne, pk_po_eq, pk_po_ix, rI, ne_eq, ↓e72, c1, if_true, if_false, ↓e70, ↓i10, c2', bi_wz, bi_0, ↓e50, ws, c3]
        refine C68 rfl (wz_id (by omega) (by omega)) ?_
        intro M' hM
        have e1 := hQ.no (i := 1) (by decide) (by rw [l_ahead, hq, hee, if_neg c1, if_neg c2, if_pos c3]) ⟨M, hC, FC.rfl, hM⟩
        simp (disch := omega) only [↓x_al_0, ↓gr_76_0, ↓x_c, ↓c_72, ↓x_eq0, ↓c_53, ↓x_irz, ↓c_70, ↓x_str, ↓c_71, ↓c_50, ↓x_is_1, ↓x_il_1, ↓x_ne, ↓c_68, ↓pz_76_4, ↓c_51, ↓n_49, ↓s_49_0, ↓s_49_19, ↓s_49_45, ↓s_49_64, ↓bk_v, ↓bk_n, ↓bk_r, ↓pv_i, ↓pv_r, ↓pv_0, ↓pv_l, wz_pk, wz_ti, wz_wz, vI_wz, wz_id, wz_0, List.length_cons, List.length_nil, ↓reduceIte, true_and, and_true, Int.reduceLE, Int.reduceLT, Int.reduceEq, not_true_eq_false, not_false_eq_true, false_or, or_false, true_or, or_true, ite_not, Int.reduceNeg, Int32.reduceToInt, Nat.reduceAdd, Nat.reduceLeDiff, Nat.reduceLT, Nat.reduceEqDiff, Int.reduceAdd, Int.reduceSub, Int.reduceMul, Nat.zero_le, pk_po_ne, pk_po_eq, pk_po_ix, rI, ne_eq]
        exact e1
      · have he0 : q < e := by
          have hlen : ∀ j, isW S q e (P_txt j) = true → e - q = (P_txt j).length := fun j h => by unfold isW at h; simp at h; exact h.1
          by_cases hqe : q = e
          · exfalso
            apply c3
            unfold subj
            have nw : ∀ j, 0 < (P_txt j).length → isW S q e (P_txt j) = true → False := fun j hj h => by have := hlen j h; omega
            rw [if_neg (fun h => nw 11 (by decide) h), if_neg (fun h => nw 12 (by decide) h), if_neg (fun h => nw 13 (by decide) h), if_neg (fun h => nw 14 (by decide) h), if_neg (fun h => nw 15 (by decide) h), if_neg (fun h => nw 16 (by decide) h), if_neg (fun h => nw 17 (by decide) h), if_neg (fun h => nw 18 (by decide) h), if_neg (fun h => nw 19 (by decide) h), if_neg (fun h => nw 20 (by decide) h)]
          · omega
        have hL2 : LRd S W k n p (po M 76 4 0) := ⟨hC.pw (a := 76) rfl (by decide), by rw [pk_po_ne (by decide)]; exact hn, by rw [pk_po_ne (by decide)]; exact hL.2.2.1, by rw [pk_po_ix (by decide)]; exact hL.2.2.2.1, fun j u v => by rw [pk_po_ne (by decide)]; exact hL.2.2.2.2 j u v⟩
        simp (disch := omega) only [↓x_al_0, ↓gr_76_0, ↓x_c, ↓c_72, ↓x_eq0, ↓c_53, ↓x_irz, ↓c_70, ↓x_str, ↓c_71, ↓c_50, ↓x_is_1, ↓x_il_1, ↓x_ne, ↓c_68, ↓pz_76_4, ↓c_51, ↓n_49, ↓s_49_0, ↓s_49_19, ↓s_49_45, ↓s_49_64, ↓bk_v, ↓bk_n, ↓bk_r, ↓pv_i, ↓pv_r, ↓pv_0, ↓pv_l, wz_pk, wz_ti, wz_wz, vI_wz, wz_id, wz_0, List.length_cons, List.length_nil, ↓reduceIte, true_and, and_true, Int.reduceLE, Int.reduceLT, Int.reduceEq, not_true_eq_false, not_false_eq_true, false_or, or_false, true_or, or_true, ite_not, Int.reduceNeg, Int32.reduceToInt, Nat.reduceAdd, Nat.reduceLeDiff, Nat.reduceLT, Nat.reduceEqDiff, Int.reduceAdd, Int.reduceSub, Int.reduceMul, Nat.zero_le, pk_po_ne, pk_po_eq, pk_po_ix, rI, ne_eq, ↓e72, c1, if_true, if_false, ↓e70, ↓i10, c2', bi_wz, bi_0, ↓e50, ws, c3, tx_po]
        refine C51 hL2 (by rw [pk_po_eq]; rfl) (by rw [pk_po_ix (by decide)]; exact h5) (by omega) hw2.2 (by omega) ⟨hs.1, by omega⟩ ⟨by omega, sr.2⟩ ⟨fun x j S' W' k' M' hr hL' g4 g5 hF => ?_, fun i x j S' W' k' M' hi hr hX => ?_⟩
        · have e1 := hQ.ok (by rw [l_ahead, hq, hee, if_neg c1, if_neg c2, if_neg c3]; exact hr) hL' g4 g5 ((FC.rfl.pw (by decide)).trans hF)
          simp (disch := omega) only [↓x_al_0, ↓gr_76_0, ↓x_c, ↓c_72, ↓x_eq0, ↓c_53, ↓x_irz, ↓c_70, ↓x_str, ↓c_71, ↓c_50, ↓x_is_1, ↓x_il_1, ↓x_ne, ↓c_68, ↓pz_76_4, ↓c_51, ↓n_49, ↓s_49_0, ↓s_49_19, ↓s_49_45, ↓s_49_64, ↓bk_v, ↓bk_n, ↓bk_r, ↓pv_i, ↓pv_r, ↓pv_0, ↓pv_l, wz_pk, wz_ti, wz_wz, vI_wz, wz_id, wz_0, List.length_cons, List.length_nil, ↓reduceIte, true_and, and_true, Int.reduceLE, Int.reduceLT, Int.reduceEq, not_true_eq_false, not_false_eq_true, false_or, or_false, true_or, or_true, ite_not, Int.reduceNeg, Int32.reduceToInt, Nat.reduceAdd, Nat.reduceLeDiff, Nat.reduceLT, Nat.reduceEqDiff, Int.reduceAdd, Int.reduceSub, Int.reduceMul, Nat.zero_le, pk_po_ne, pk_po_eq, pk_po_ix, rI, ne_eq]
          exact e1
        · obtain ⟨M0, x1, x2, x3⟩ := hX
          have e1 := hQ.no hi (by rw [l_ahead, hq, hee, if_neg c1, if_neg c2, if_neg c3]; exact hr) ⟨M0, x1, (FC.rfl.pw (by decide)).trans x2, x3⟩
          simp (disch := omega) only [↓x_al_0, ↓gr_76_0, ↓x_c, ↓c_72, ↓x_eq0, ↓c_53, ↓x_irz, ↓c_70, ↓x_str, ↓c_71, ↓c_50, ↓x_is_1, ↓x_il_1, ↓x_ne, ↓c_68, ↓pz_76_4, ↓c_51, ↓n_49, ↓s_49_0, ↓s_49_19, ↓s_49_45, ↓s_49_64, ↓bk_v, ↓bk_n, ↓bk_r, ↓pv_i, ↓pv_r, ↓pv_0, ↓pv_l, wz_pk, wz_ti, wz_wz, vI_wz, wz_id, wz_0, List.length_cons, List.length_nil, ↓reduceIte, true_and, and_true, Int.reduceLE, Int.reduceLT, Int.reduceEq, not_true_eq_false, not_false_eq_true, false_or, or_false, true_or, or_true, ite_not, Int.reduceNeg, Int32.reduceToInt, Nat.reduceAdd, Nat.reduceLeDiff, Nat.reduceLT, Nat.reduceEqDiff, Int.reduceAdd, Int.reduceSub, Int.reduceMul, Nat.zero_le, pk_po_ne, pk_po_eq, pk_po_ix, rI, ne_eq]
          exact e1
theorem C52 (hL : LRd S W k n p M) (hW : ∀ j, 0 ≤ j → j < k → 0 ≤ W j ∧ W j ≤ 3) (h4 : pk M 76 4 = 0) (h5 : pk M 76 5 = 0) (h0 : 0 ≤ p) (h1 : p ≤ n) (h2 : n ≤ 300) (hs : 0 ≤ S 69 1 ∧ 0 ≤ k ∧ S 69 1 + k ≤ p) (hQ : LQ X s dh t M Q n (l_join S W k n p)) : CL 52 [.ref 76] (mkh X s dh (lB s) t M) Q := by
  have hC := hL.1
  have hn := hL.2.1
  have hs2 := sk_rng (S := S) h1
  have hw2 := we_rng (S := S) hs2.2
  have ss := sk_self (S := S) (n := n) (p := sk S n p) sk_end
  generalize hq : sk S n p = q at *
  generalize hee : we S n q = e at *
  rw [← hL.at2 (x := 0)]
  have e72 := fun (Q' : MOut → MHp → Prop) => C72 (Q := Q') (X := X) (s := s) (dh := dh) (dl := lB s) (t := t) (f := pk M 2 3) hC hn h0 h1 (by omega : n ≤ 600) (show wz 93 = 93 from rfl)
  have f72 := fun (Q' : MOut → MHp → Prop) => C72 (Q := Q') (X := X) (s := s) (dh := dh) (dl := lB s) (t := t) (f := q) hC hn (p := q) (by omega) hs2.2 (by omega : n ≤ 600) (show wz 59 = 59 from rfl)
  have e70 := fun (Q' : MOut → MHp → Prop) => C70 (Q := Q') (X := X) (s := s) (dh := dh) (dl := lB s) (t := t) (f := q) hC hn (p := q) (by omega) hs2.2 (by omega : n ≤ 600)
  rw [ss, hee] at e70
  rw [hq] at e72
  rw [ss] at f72
  have rr := fun w => rel_rng (w := w) (S := S) (W := W) (k := k) hs.2.1
  by_cases c1 : q < n ∧ S 1 q = 93
  · simp (disch := omega) only [↓x_al_0, ↓gr_76_0, ↓x_c, ↓c_72, ↓x_eq0, ↓c_54, ↓gi_76_3, ↓x_ne0, ↓c_68, ↓x_irz, ↓x_dup_i, ↓x_dup_r, ↓x_isub, ↓pi_76_3, ↓x_go, ↓pz_76_5, ↓gi_76_5, ↓c_70, ↓x_str, ↓c_71, ↓x_is_1, ↓x_il_1, ↓x_is_2, ↓x_il_2, ↓c_53, ↓pz_76_4, ↓n_52, ↓s_52_0, ↓s_52_33, ↓s_52_45, ↓s_52_74, ↓s_52_75, ↓s_52_96, ↓s_52_100, ↓s_52_101, ↓s_52_102, ↓s_52_144, ↓s_52_152, ↓s_52_153, ↓bk_v, ↓bk_n, ↓bk_r, ↓pv_i, ↓pv_r, ↓pv_0, ↓pv_l, wz_pk, wz_ti, wz_wz, vI_wz, wz_id, wz_0, List.length_cons, List.length_nil, ↓reduceIte, true_and, and_true, Int.reduceLE, Int.reduceLT, Int.reduceEq, not_true_eq_false, not_false_eq_true, false_or, or_false, true_or, or_true, ite_not, Int.reduceNeg, Int32.reduceToInt, Nat.reduceAdd, Nat.reduceLeDiff, Nat.reduceLT, Nat.reduceEqDiff, Int.reduceAdd, Int.reduceSub, Int.reduceMul, Nat.zero_le, pk_po_ne, pk_po_eq, pk_po_ix, rI, ne_eq, ↓e72, c1, and_self, if_true, if_false]
    refine C54 (n := n) (p := q + 1) rfl hW (hL.tx (x := q + 1) (q := q) (wz_id (by omega) (by omega))) hs.2.1 ⟨hs.1, by omega⟩ ?_
    intro M' hL' g4 g5 hF h22
    obtain ⟨m1, m2, m3, m4, m5⟩ := hL'
    have r1 := rr 1
    have m6 : pk M' 2 3 = q := by unfold pk; rw [h22]; exact (tx_3 (M := M) (p := q + 1) (f := q)).trans (wz_id (by omega) (by omega))
    by_cases c2 : (rel 1 S W k).2 = 0
    · rw [c2] at m4
      simp (disch := omega) only [↓x_al_0, ↓gr_76_0, ↓x_c, ↓c_72, ↓x_eq0, ↓c_54, ↓gi_76_3, ↓x_ne0, ↓c_68, ↓x_irz, ↓x_dup_i, ↓x_dup_r, ↓x_isub, ↓pi_76_3, ↓x_go, ↓pz_76_5, ↓gi_76_5, ↓c_70, ↓x_str, ↓c_71, ↓x_is_1, ↓x_il_1, ↓x_is_2, ↓x_il_2, ↓c_53, ↓pz_76_4, ↓n_52, ↓s_52_0, ↓s_52_33, ↓s_52_45, ↓s_52_74, ↓s_52_75, ↓s_52_96, ↓s_52_100, ↓s_52_101, ↓s_52_102, ↓s_52_144, ↓s_52_152, ↓s_52_153, ↓bk_v, ↓bk_n, ↓bk_r, ↓pv_i, ↓pv_r, ↓pv_0, ↓pv_l, wz_pk, wz_ti, wz_wz, vI_wz, wz_id, wz_0, List.length_cons, List.length_nil, ↓reduceIte, true_and, and_true, Int.reduceLE, Int.reduceLT, Int.reduceEq, not_true_eq_false, not_false_eq_true, false_or, or_false, true_or, or_true, ite_not, Int.reduceNeg, Int32.reduceToInt, Nat.reduceAdd, Nat.reduceLeDiff, Nat.reduceLT, Nat.reduceEqDiff, Int.reduceAdd, Int.reduceSub, Int.reduceMul, Nat.zero_le, pk_po_ne, pk_po_eq, pk_po_ix, rI, ne_eq, m4, if_true]
      rw [← txm_self m3, m6]
      refine C68 rfl (wz_id (by omega) (by omega)) ?_
      intro M2 hM2
      have e1 := hQ.no (i := 1) (by decide) (by rw [l_join, hq, if_pos c1, if_pos c2]) ⟨M', m1, FC.rfl.txm.trans hF, hM2⟩
      simp (disch := omega) only [↓x_al_0, ↓gr_76_0, ↓x_c, ↓c_72, ↓x_eq0, ↓c_54, ↓gi_76_3, ↓x_ne0, ↓c_68, ↓x_irz, ↓x_dup_i, ↓x_dup_r, ↓x_isub, ↓pi_76_3, ↓x_go, ↓pz_76_5, ↓gi_76_5, ↓c_70, ↓x_str, ↓c_71, ↓x_is_1, ↓x_il_1, ↓x_is_2, ↓x_il_2, ↓c_53, ↓pz_76_4, ↓n_52, ↓s_52_0, ↓s_52_33, ↓s_52_45, ↓s_52_74, ↓s_52_75, ↓s_52_96, ↓s_52_100, ↓s_52_101, ↓s_52_102, ↓s_52_144, ↓s_52_152, ↓s_52_153, ↓bk_v, ↓bk_n, ↓bk_r, ↓pv_i, ↓pv_r, ↓pv_0, ↓pv_l, wz_pk, wz_ti, wz_wz, vI_wz, wz_id, wz_0, List.length_cons, List.length_nil, ↓reduceIte, true_and, and_true, Int.reduceLE, Int.reduceLT, Int.reduceEq, not_true_eq_false, not_false_eq_true, false_or, or_false, true_or, or_true, ite_not, Int.reduceNeg, Int32.reduceToInt, Nat.reduceAdd, Nat.reduceLeDiff, Nat.reduceLT, Nat.reduceEqDiff, Int.reduceAdd, Int.reduceSub, Int.reduceMul, Nat.zero_le, pk_po_ne, pk_po_eq, pk_po_ix, rI, ne_eq]
      exact e1
    · have e1 := hQ.ok (j := 1) (M' := po M' 76 3 ((rel 1 S W k).2 - 1)) (by rw [l_join, hq, if_pos c1, if_neg c2]) ⟨m1.pw (a := 76) rfl (by decide), by rw [pk_po_ne (by decide)]; exact m2, by rw [pk_po_ne (by decide)]; exact m3, by rw [pk_po_eq]; exact wz_id (by omega) (by omega), fun j u v => by rw [pk_po_ne (by decide)]; exact m5 j u (by omega)⟩ (by rw [pk_po_ix (by decide), g4, tx_o (by decide)]; exact h4) (by rw [pk_po_ix (by decide), g5, tx_o (by decide)]; exact h5) ((FC.rfl.txm.trans hF).pw (by decide))
      have w2 : wz (rel 1 S W k).2 = (rel 1 S W k).2 := wz_id (by omega) (by omega)
      simp (disch := omega) only [↓x_al_0, ↓gr_76_0, ↓x_c, ↓c_72, ↓x_eq0, ↓c_54, ↓gi_76_3, ↓x_ne0, ↓c_68, ↓x_irz, ↓x_dup_i, ↓x_dup_r, ↓x_isub, ↓pi_76_3, ↓x_go, ↓pz_76_5, ↓gi_76_5, ↓c_70, ↓x_str, ↓c_71, ↓x_is_1, ↓x_il_1, ↓x_is_2, ↓x_il_2, ↓c_53, ↓pz_76_4, ↓n_52, ↓s_52_0, ↓s_52_33, ↓s_52_45, ↓s_52_74, ↓s_52_75, ↓s_52_96, ↓s_52_100, ↓s_52_101, ↓s_52_102, ↓s_52_144, ↓s_52_152, ↓s_52_153, ↓bk_v, ↓bk_n, ↓bk_r, ↓pv_i, ↓pv_r, ↓pv_0, ↓pv_l, wz_pk, wz_ti, wz_wz, vI_wz, wz_id, wz_0, List.length_cons, List.length_nil, ↓reduceIte, true_and, and_true, Int.reduceLE, Int.reduceLT, Int.reduceEq, not_true_eq_false, not_false_eq_true, false_or, or_false, true_or, or_true, ite_not, Int.reduceNeg, Int32.reduceToInt, Nat.reduceAdd, Nat.reduceLeDiff, Nat.reduceLT, Nat.reduceEqDiff, Int.reduceAdd, Int.reduceSub, Int.reduceMul, Nat.zero_le, pk_po_ne, pk_po_eq, pk_po_ix, rI, ne_eq, m4, w2, c2, if_false]
      exact e1
  · by_cases c3 : q < n ∧ S 1 q = 59
    · simp (disch := omega) only [↓x_al_0, ↓gr_76_0, ↓x_c, ↓c_72, ↓x_eq0, ↓c_54, ↓gi_76_3, ↓x_ne0, ↓c_68, ↓x_irz, ↓x_dup_i, ↓x_dup_r, ↓x_isub, ↓pi_76_3, ↓x_go, ↓pz_76_5, ↓gi_76_5, ↓c_70, ↓x_str, ↓c_71, ↓x_is_1, ↓x_il_1, ↓x_is_2, ↓x_il_2, ↓c_53, ↓pz_76_4, ↓n_52, ↓s_52_0, ↓s_52_33, ↓s_52_45, ↓s_52_74, ↓s_52_96, ↓s_52_100, ↓s_52_101, ↓s_52_144, ↓s_52_152, ↓s_52_153, ↓bk_v, ↓bk_n, ↓bk_r, ↓pv_i, ↓pv_r, ↓pv_0, ↓pv_l, wz_pk, wz_ti, wz_wz, vI_wz, wz_id, wz_0, List.length_cons, List.length_nil, ↓reduceIte, true_and, and_true, Int.reduceLE, Int.reduceLT, Int.reduceEq, not_true_eq_false, not_false_eq_true, false_or, or_false, true_or, or_true, ite_not, Int.reduceNeg, Int32.reduceToInt, Nat.reduceAdd, Nat.reduceLeDiff, Nat.reduceLT, Nat.reduceEqDiff, Int.reduceAdd, Int.reduceSub, Int.reduceMul, Nat.zero_le, pk_po_ne, pk_po_eq, pk_po_ix, rI, ne_eq, ↓e72, c1, if_true, if_false, ↓f72, c3, and_self]
      refine C54 (n := n) (p := q + 1) rfl hW (hL.tx (x := q + 1) (q := q) (wz_id (by omega) (by omega))) hs.2.1 ⟨hs.1, by omega⟩ ?_
      intro M' hL' g4 g5 hF h22
      obtain ⟨m1, m2, m3, m4, m5⟩ := hL'
      have r1 := rr 1
      have m6 : pk M' 2 3 = q := by unfold pk; rw [h22]; exact (tx_3 (M := M) (p := q + 1) (f := q)).trans (wz_id (by omega) (by omega))
      by_cases c2 : (rel 1 S W k).2 = 0
      · have e1 := hQ.ok (j := 2) (M' := po M' 76 5 1) (by rw [l_join, hq, if_neg c1, if_pos c3, if_pos c2]) ⟨m1.pw (a := 76) rfl (by decide), by rw [pk_po_ne (by decide)]; exact m2, by rw [pk_po_ne (by decide)]; exact m3, by rw [pk_po_ix (by decide), m4]; exact c2, fun j u v => by omega⟩ (by rw [pk_po_ix (by decide), g4, tx_o (by decide)]; exact h4) (by rw [pk_po_eq]; rfl) ((FC.rfl.txm.trans hF).pw (by decide))
        rw [c2] at m4
        simp (disch := omega) only [↓x_al_0, ↓gr_76_0, ↓x_c, ↓c_72, ↓x_eq0, ↓c_54, ↓gi_76_3, ↓x_ne0, ↓c_68, ↓x_irz, ↓x_dup_i, ↓x_dup_r, ↓x_isub, ↓pi_76_3, ↓x_go, ↓pz_76_5, ↓gi_76_5, ↓c_70, ↓x_str, ↓c_71, ↓x_is_1, ↓x_il_1, ↓x_is_2, ↓x_il_2, ↓c_53, ↓pz_76_4, ↓n_52, ↓s_52_0, ↓s_52_33, ↓s_52_45, ↓s_52_74, ↓s_52_75, ↓s_52_96, ↓s_52_100, ↓s_52_101, ↓s_52_144, ↓s_52_152, ↓s_52_153, ↓bk_v, ↓bk_n, ↓bk_r, ↓pv_i, ↓pv_r, ↓pv_0, ↓pv_l, wz_pk, wz_ti, wz_wz, vI_wz, wz_id, wz_0, List.length_cons, List.length_nil, ↓reduceIte, true_and, and_true, Int.reduceLE, Int.reduceLT, Int.reduceEq, not_true_eq_false, not_false_eq_true, false_or, or_false, true_or, or_true, ite_not, Int.reduceNeg, Int32.reduceToInt, Nat.reduceAdd, Nat.reduceLeDiff, Nat.reduceLT, Nat.reduceEqDiff, Int.reduceAdd, Int.reduceSub, Int.reduceMul, Nat.zero_le, pk_po_ne, pk_po_eq, pk_po_ix, rI, ne_eq, m4, if_true]
        exact e1
      · have w2 : wz (rel 1 S W k).2 = (rel 1 S W k).2 := wz_id (by omega) (by omega)
        simp (disch := omega) only [↓x_al_0, ↓gr_76_0, ↓x_c, ↓c_72, ↓x_eq0, ↓c_54, ↓gi_76_3, ↓x_ne0, ↓c_68, ↓x_irz, ↓x_dup_i, ↓x_dup_r, ↓x_isub, ↓pi_76_3, ↓x_go, ↓pz_76_5, ↓gi_76_5, ↓c_70, ↓x_str, ↓c_71, ↓x_is_1, ↓x_il_1, ↓x_is_2, ↓x_il_2, ↓c_53, ↓pz_76_4, ↓n_52, ↓s_52_0, ↓s_52_33, ↓s_52_45, ↓s_52_74, ↓s_52_75, ↓s_52_96, ↓s_52_100, ↓s_52_101, ↓s_52_144, ↓s_52_152, ↓s_52_153, ↓bk_v, ↓bk_n, ↓bk_r, ↓pv_i, ↓pv_r, ↓pv_0, ↓pv_l, wz_pk, wz_ti, wz_wz, vI_wz, wz_id, wz_0, List.length_cons, List.length_nil, ↓reduceIte, true_and, and_true, Int.reduceLE, Int.reduceLT, Int.reduceEq, not_true_eq_false, not_false_eq_true, false_or, or_false, true_or, or_true, ite_not, Int.reduceNeg, Int32.reduceToInt, Nat.reduceAdd, Nat.reduceLeDiff, Nat.reduceLT, Nat.reduceEqDiff, Int.reduceAdd, Int.reduceSub, Int.reduceMul, Nat.zero_le, pk_po_ne, pk_po_eq, pk_po_ix, rI, ne_eq, m4, w2, c2, if_false]
        have m3' : pk (po M' 76 5 0) 2 2 = q + 1 := by rw [pk_po_ne (by decide)]; exact m3
        have m6' : pk (po M' 76 5 0) 2 3 = q := by rw [pk_po_ne (by decide)]; exact m6
        rw [← txm_self m3', m6']
        refine C68 rfl (wz_id (by omega) (by omega)) ?_
        intro M2 hM2
        have e1 := hQ.no (i := 1) (by decide) (by rw [l_join, hq, if_neg c1, if_pos c3, if_neg c2]) ⟨_, m1.pw (a := 76) (i := 5) (x := 0) rfl (by decide), (FC.rfl.txm.trans hF).pw (by decide), hM2⟩
        simp (disch := omega) only [↓x_al_0, ↓gr_76_0, ↓x_c, ↓c_72, ↓x_eq0, ↓c_54, ↓gi_76_3, ↓x_ne0, ↓c_68, ↓x_irz, ↓x_dup_i, ↓x_dup_r, ↓x_isub, ↓pi_76_3, ↓x_go, ↓pz_76_5, ↓gi_76_5, ↓c_70, ↓x_str, ↓c_71, ↓x_is_1, ↓x_il_1, ↓x_is_2, ↓x_il_2, ↓c_53, ↓pz_76_4, ↓n_52, ↓s_52_0, ↓s_52_33, ↓s_52_45, ↓s_52_74, ↓s_52_75, ↓s_52_96, ↓s_52_100, ↓s_52_101, ↓s_52_144, ↓s_52_152, ↓s_52_153, ↓bk_v, ↓bk_n, ↓bk_r, ↓pv_i, ↓pv_r, ↓pv_0, ↓pv_l, wz_pk, wz_ti, wz_wz, vI_wz, wz_id, wz_0, List.length_cons, List.length_nil, ↓reduceIte, true_and, and_true, Int.reduceLE, Int.reduceLT, Int.reduceEq, not_true_eq_false, not_false_eq_true, false_or, or_false, true_or, or_true, ite_not, Int.reduceNeg, Int32.reduceToInt, Nat.reduceAdd, Nat.reduceLeDiff, Nat.reduceLT, Nat.reduceEqDiff, Int.reduceAdd, Int.reduceSub, Int.reduceMul, Nat.zero_le, pk_po_ne, pk_po_eq, pk_po_ix, rI, ne_eq]
        exact e1
    · have i21 := fun (Q' : MOut → MHp → Prop) => C71 (Q := Q') (X := X) (s := s) (dh := dh) (dl := lB s) (t := t) (j := 21) (q := q) (e := e) hC (by omega) hw2.1 (by omega) (by decide) (by decide) (by decide)
      have i22 := fun (Q' : MOut → MHp → Prop) => C71 (Q := Q') (X := X) (s := s) (dh := dh) (dl := lB s) (t := t) (j := 22) (q := q) (e := e) hC (by omega) hw2.1 (by omega) (by decide) (by decide) (by decide)
      have hlen : ∀ j, isW S q e (P_txt j) = true → e - q = (P_txt j).length := fun j h => by unfold isW at h; simp at h; exact h.1
      -- a join: what binds as strongly goes, the join waits
      have join : ∀ (w b1 : Int), w = 1 ∨ w = 2 → q < e → l_join S W k n p = (0, e, 0, (rel w S W k).1, upi W (rel w S W k).2 w, (rel w S W k).2 + 1) → EX 52 (sx 52 153) [.ref 76, vI b1, .null] [vI w] (mkh X s dh (lB s) t (txm M e q)) Q := by
        intro w b1 hw hqe hlj
        have r1 := rr w
        have ww : wz w = w := wz_id (by omega) (by omega)
        rw [s_52_153]
        simp (disch := omega) only [↓x_al_0, ↓gr_76_0, ↓x_c, ↓c_72, ↓x_eq0, ↓c_54, ↓gi_76_3, ↓x_ne0, ↓c_68, ↓x_irz, ↓x_dup_i, ↓x_dup_r, ↓x_isub, ↓pi_76_3, ↓x_go, ↓pz_76_5, ↓gi_76_5, ↓c_70, ↓x_str, ↓c_71, ↓x_is_1, ↓x_il_1, ↓x_is_2, ↓x_il_2, ↓c_53, ↓pz_76_4, ↓n_52, ↓s_52_0, ↓s_52_33, ↓s_52_45, ↓s_52_74, ↓s_52_75, ↓s_52_96, ↓s_52_100, ↓s_52_101, ↓s_52_102, ↓s_52_144, ↓s_52_152, ↓s_52_153, ↓bk_v, ↓bk_n, ↓bk_r, ↓pv_i, ↓pv_r, ↓pv_0, ↓pv_l, wz_pk, wz_ti, wz_wz, vI_wz, wz_id, wz_0, List.length_cons, List.length_nil, ↓reduceIte, true_and, and_true, Int.reduceLE, Int.reduceLT, Int.reduceEq, not_true_eq_false, not_false_eq_true, false_or, or_false, true_or, or_true, ite_not, Int.reduceNeg, Int32.reduceToInt, Nat.reduceAdd, Nat.reduceLeDiff, Nat.reduceLT, Nat.reduceEqDiff, Int.reduceAdd, Int.reduceSub, Int.reduceMul, Nat.zero_le, pk_po_ne, pk_po_eq, pk_po_ix, rI, ne_eq]
        refine C54 (n := n) (p := e) ww hW (hL.tx (x := e) (q := q) (wz_id (by omega) (by omega))) hs.2.1 ⟨hs.1, by omega⟩ ?_
        intro M' hL' g4 g5 hF h22
        simp (disch := omega) only [↓x_al_0, ↓gr_76_0, ↓x_c, ↓c_72, ↓x_eq0, ↓c_54, ↓gi_76_3, ↓x_ne0, ↓c_68, ↓x_irz, ↓x_dup_i, ↓x_dup_r, ↓x_isub, ↓pi_76_3, ↓x_go, ↓pz_76_5, ↓gi_76_5, ↓c_70, ↓x_str, ↓c_71, ↓x_is_1, ↓x_il_1, ↓x_is_2, ↓x_il_2, ↓c_53, ↓pz_76_4, ↓n_52, ↓s_52_0, ↓s_52_33, ↓s_52_45, ↓s_52_74, ↓s_52_75, ↓s_52_96, ↓s_52_100, ↓s_52_101, ↓s_52_102, ↓s_52_144, ↓s_52_152, ↓s_52_153, ↓bk_v, ↓bk_n, ↓bk_r, ↓pv_i, ↓pv_r, ↓pv_0, ↓pv_l, wz_pk, wz_ti, wz_wz, vI_wz, wz_id, wz_0, List.length_cons, List.length_nil, ↓reduceIte, true_and, and_true, Int.reduceLE, Int.reduceLT, Int.reduceEq, not_true_eq_false, not_false_eq_true, false_or, or_false, true_or, or_true, ite_not, Int.reduceNeg, Int32.reduceToInt, Nat.reduceAdd, Nat.reduceLeDiff, Nat.reduceLT, Nat.reduceEqDiff, Int.reduceAdd, Int.reduceSub, Int.reduceMul, Nat.zero_le, pk_po_ne, pk_po_eq, pk_po_ix, rI, ne_eq]
        refine C53 hL' ⟨by omega, by omega⟩ ww ?_
        intro M2 hL2 k4 k5 hF2 h23
        obtain ⟨m1, m2, m3, m4, m5⟩ := hL2
        have e1 := hQ.ok (j := 0) (M' := po M2 76 4 1) hlj ⟨m1.pw (a := 76) rfl (by decide), by rw [pk_po_ne (by decide)]; exact m2, by rw [pk_po_ne (by decide)]; exact m3, by rw [pk_po_ix (by decide)]; exact m4, fun j u v => by rw [pk_po_ne (by decide)]; exact m5 j u v⟩ (by rw [pk_po_eq]; rfl) (by rw [pk_po_ix (by decide), k5, g5, tx_o (by decide)]; exact h5) (((FC.rfl.txm.trans hF).trans hF2).pw (by decide))
        simp (disch := omega) only [↓x_al_0, ↓gr_76_0, ↓x_c, ↓c_72, ↓x_eq0, ↓c_54, ↓gi_76_3, ↓x_ne0, ↓c_68, ↓x_irz, ↓x_dup_i, ↓x_dup_r, ↓x_isub, ↓pi_76_3, ↓x_go, ↓pz_76_5, ↓gi_76_5, ↓c_70, ↓x_str, ↓c_71, ↓x_is_1, ↓x_il_1, ↓x_is_2, ↓x_il_2, ↓c_53, ↓pz_76_4, ↓n_52, ↓s_52_0, ↓s_52_33, ↓s_52_45, ↓s_52_74, ↓s_52_75, ↓s_52_96, ↓s_52_100, ↓s_52_101, ↓s_52_102, ↓s_52_144, ↓s_52_152, ↓s_52_153, ↓bk_v, ↓bk_n, ↓bk_r, ↓pv_i, ↓pv_r, ↓pv_0, ↓pv_l, wz_pk, wz_ti, wz_wz, vI_wz, wz_id, wz_0, List.length_cons, List.length_nil, ↓reduceIte, true_and, and_true, Int.reduceLE, Int.reduceLT, Int.reduceEq, not_true_eq_false, not_false_eq_true, false_or, or_false, true_or, or_true, ite_not, Int.reduceNeg, Int32.reduceToInt, Nat.reduceAdd, Nat.reduceLeDiff, Nat.reduceLT, Nat.reduceEqDiff, Int.reduceAdd, Int.reduceSub, Int.reduceMul, Nat.zero_le, pk_po_ne, pk_po_eq, pk_po_ix, rI, ne_eq]
        exact e1
      by_cases c4 : isW S q e (P_txt 21) = true
      · have he0 := hlen 21 c4
        have : (P_txt 21).length = 3 := rfl
        have jn := join 2 1 (Or.inr rfl) (by omega) (by rw [l_join, hq, hee, if_neg c1, if_neg c3, if_pos c4])
        simp (disch := omega) only [↓x_al_0, ↓gr_76_0, ↓x_c, ↓c_72, ↓x_eq0, ↓c_54, ↓gi_76_3, ↓x_ne0, ↓c_68, ↓x_irz, ↓x_dup_i, ↓x_dup_r, ↓x_isub, ↓pi_76_3, ↓x_go, ↓pz_76_5, ↓gi_76_5, ↓c_70, ↓x_str, ↓c_71, ↓x_is_1, ↓x_il_1, ↓x_is_2, ↓x_il_2, ↓c_53, ↓pz_76_4, ↓n_52, ↓s_52_0, ↓s_52_33, ↓s_52_45, ↓s_52_74, ↓s_52_75, ↓s_52_96, ↓s_52_100, ↓s_52_101, ↓s_52_102, ↓s_52_144, ↓s_52_152, ↓bk_v, ↓bk_n, ↓bk_r, ↓pv_i, ↓pv_r, ↓pv_0, ↓pv_l, wz_pk, wz_ti, wz_wz, vI_wz, wz_id, wz_0, List.length_cons, List.length_nil, ↓reduceIte, true_and, and_true, Int.reduceLE, Int.reduceLT, Int.reduceEq, not_true_eq_false, not_false_eq_true, false_or, or_false, true_or, or_true, ite_not, Int.reduceNeg, Int32.reduceToInt, Nat.reduceAdd, Nat.reduceLeDiff, Nat.reduceLT, Nat.reduceEqDiff, Int.reduceAdd, Int.reduceSub, Int.reduceMul, Nat.zero_le, pk_po_ne, pk_po_eq, pk_po_ix, rI, ne_eq, ↓e72, c1, if_true, if_false, ↓f72, c3, ↓e70, ↓i21, c4, bi]
        exact jn
      · have c4' : isW S q e (P_txt 21) = false := by simpa using c4
        by_cases c5 : isW S q e (P_txt 22) = true
        · have he0 := hlen 22 c5
          have : (P_txt 22).length = 2 := rfl
          have jn := join 1 0 (Or.inl rfl) (by omega) (by rw [l_join, hq, hee, if_neg c1, if_neg c3, if_neg c4, if_pos c5])
          simp (disch := omega) only [↓x_al_0, ↓gr_76_0, ↓x_c, ↓c_72, ↓x_eq0, ↓c_54, ↓gi_76_3, ↓x_ne0, ↓c_68, ↓x_irz, ↓x_dup_i, ↓x_dup_r, ↓x_isub, ↓pi_76_3, ↓x_go, ↓pz_76_5, ↓gi_76_5, ↓c_70, ↓x_str, ↓c_71, ↓x_is_1, ↓x_il_1, ↓x_is_2, ↓x_il_2, ↓c_53, ↓pz_76_4, ↓n_52, ↓s_52_0, ↓s_52_33, ↓s_52_45, ↓s_52_74, ↓s_52_75, ↓s_52_96, ↓s_52_100, ↓s_52_101, ↓s_52_102, ↓s_52_144, ↓s_52_152, ↓bk_v, ↓bk_n, ↓bk_r, ↓pv_i, ↓pv_r, ↓pv_0, ↓pv_l, wz_pk, wz_ti, wz_wz, vI_wz, wz_id, wz_0, List.length_cons, List.length_nil, ↓reduceIte, true_and, and_true, Int.reduceLE, Int.reduceLT, Int.reduceEq, not_true_eq_false, not_false_eq_true, false_or, or_false, true_or, or_true, ite_not, Int.reduceNeg, Int32.reduceToInt, Nat.reduceAdd, Nat.reduceLeDiff, Nat.reduceLT, Nat.reduceEqDiff, Int.reduceAdd, Int.reduceSub, Int.reduceMul, Nat.zero_le, pk_po_ne, pk_po_eq, pk_po_ix, rI, ne_eq, ↓e72, c1, if_true, if_false, ↓f72, c3, ↓e70, ↓i21, c4', ↓i22, c5, bi, Bool.false_eq_true]
          exact jn
        · have c5' : isW S q e (P_txt 22) = false := by simpa using c5
          simp (disch := omega) only [↓x_al_0, ↓gr_76_0, ↓x_c, ↓c_72, ↓x_eq0, ↓c_54, ↓gi_76_3, ↓x_ne0, ↓c_68, ↓x_irz, ↓x_dup_i, ↓x_dup_r, ↓x_isub, ↓pi_76_3, ↓x_go, ↓pz_76_5, ↓gi_76_5, ↓c_70, ↓x_str, ↓c_71, ↓x_is_1, ↓x_il_1, ↓x_is_2, ↓x_il_2, ↓c_53, ↓pz_76_4, ↓n_52, ↓s_52_0, ↓s_52_33, ↓s_52_45, ↓s_52_74, ↓s_52_75, ↓s_52_96, ↓s_52_100, ↓s_52_101, ↓s_52_102, ↓s_52_144, ↓s_52_152, ↓bk_v, ↓bk_n, ↓bk_r, ↓pv_i, ↓pv_r, ↓pv_0, ↓pv_l, wz_pk, wz_ti, wz_wz, vI_wz, wz_id, wz_0, List.length_cons, List.length_nil, ↓reduceIte, true_and, and_true, Int.reduceLE, Int.reduceLT, Int.reduceEq, not_true_eq_false, not_false_eq_true, false_or, or_false, true_or, or_true, ite_not, Int.reduceNeg, Int32.reduceToInt, Nat.reduceAdd, Nat.reduceLeDiff, Nat.reduceLT, Nat.reduceEqDiff, Int.reduceAdd, Int.reduceSub, Int.reduceMul, Nat.zero_le, pk_po_ne, pk_po_eq, pk_po_ix, rI, ne_eq, ↓e72, c1, if_true, if_false, ↓f72, c3, ↓e70, ↓i21, c4', ↓i22, c5', bi, Bool.false_eq_true]
          refine C68 rfl (wz_id (by omega) (by omega)) ?_
          intro M' hM
          have e1 := hQ.no (i := 1) (by decide) (by rw [l_join, hq, hee, if_neg c1, if_neg c3, if_neg c4, if_neg c5]) ⟨M, hC, FC.rfl, hM⟩
          simp (disch := omega) only [↓x_al_0, ↓gr_76_0, ↓x_c, ↓c_72, ↓x_eq0, ↓c_54, ↓gi_76_3, ↓x_ne0, ↓c_68, ↓x_irz, ↓x_dup_i, ↓x_dup_r, ↓x_isub, ↓pi_76_3, ↓x_go, ↓pz_76_5, ↓gi_76_5, ↓c_70, ↓x_str, ↓c_71, ↓x_is_1, ↓x_il_1, ↓x_is_2, ↓x_il_2, ↓c_53, ↓pz_76_4, ↓n_52, ↓s_52_0, ↓s_52_33, ↓s_52_45, ↓s_52_74, ↓s_52_75, ↓s_52_96, ↓s_52_100, ↓s_52_101, ↓s_52_102, ↓s_52_144, ↓s_52_152, ↓s_52_153, ↓bk_v, ↓bk_n, ↓bk_r, ↓pv_i, ↓pv_r, ↓pv_0, ↓pv_l, wz_pk, wz_ti, wz_wz, vI_wz, wz_id, wz_0, List.length_cons, List.length_nil, ↓reduceIte, true_and, and_true, Int.reduceLE, Int.reduceLT, Int.reduceEq, not_true_eq_false, not_false_eq_true, false_or, or_false, true_or, or_true, ite_not, Int.reduceNeg, Int32.reduceToInt, Nat.reduceAdd, Nat.reduceLeDiff, Nat.reduceLT, Nat.reduceEqDiff, Int.reduceAdd, Int.reduceSub, Int.reduceMul, Nat.zero_le, pk_po_ne, pk_po_eq, pk_po_ix, rI, ne_eq]
          exact e1
end C52
