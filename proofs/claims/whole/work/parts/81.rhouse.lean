section R81
variable {Q : MOut → MHp → Prop} {X : Nat × (Nat → Int32)} {s : Bool × Bool} {dh dl t : Nat} {M : Mem} {S : St} {p n x : Int}
theorem ra_self (h : pk M 142 4 = p) : ra M p = M := by
  funext e j
  unfold ra po
  split
  · rename_i hh
    rw [hh.1, hh.2, ← h]
    unfold pk
    rw [Int32.ofInt_toInt]
  · rfl
theorem RN.ag {S' : St} (h : RN S M) (hS : ∀ a, 33 ≤ a → a < 63 → S' a = S a) : RN S' M := by
  unfold RN at *
  simp only [hS 33 (by decide) (by decide), hS 34 (by decide) (by decide), hS 35 (by decide) (by decide), hS 40 (by decide) (by decide), hS 41 (by decide) (by decide), hS 42 (by decide) (by decide), hS 43 (by decide) (by decide), hS 44 (by decide) (by decide), hS 57 (by decide) (by decide), hS 58 (by decide) (by decide), hS 59 (by decide) (by decide), hS 60 (by decide) (by decide), hS 61 (by decide) (by decide), hS 62 (by decide) (by decide)]
  exact h
theorem wj : P_txt 25 = P_txt 1 ∧ P_txt 26 = P_txt 4 ∧ P_txt 27 = P_txt 2 ∧ P_txt 28 = P_txt 5 ∧ P_txt 29 = P_txt 6 ∧ P_txt 30 = P_txt 3 ∧ P_txt 31 = P_txt 7 ∧ P_txt 32 = P_txt 8 := ⟨rfl, rfl, rfl, rfl, rfl, rfl, rfl, rfl⟩
theorem hjn : ¬ wy (hj 25) = wy (hj 26) ∧ ¬ wy (hj 25) = wy (hj 27) ∧ ¬ wy (hj 25) = wy (hj 28) ∧ ¬ wy (hj 25) = wy (hj 29) ∧ ¬ wy (hj 25) = wy (hj 30) ∧ ¬ wy (hj 25) = wy (hj 31) ∧ ¬ wy (hj 25) = wy (hj 32) ∧ ¬ wy (hj 26) = wy (hj 27) ∧ ¬ wy (hj 26) = wy (hj 28) ∧ ¬ wy (hj 26) = wy (hj 29) ∧ ¬ wy (hj 26) = wy (hj 30) ∧ ¬ wy (hj 26) = wy (hj 31) ∧ ¬ wy (hj 26) = wy (hj 32) ∧ ¬ wy (hj 27) = wy (hj 28) ∧ ¬ wy (hj 27) = wy (hj 29) ∧ ¬ wy (hj 27) = wy (hj 30) ∧ ¬ wy (hj 27) = wy (hj 31) ∧ ¬ wy (hj 27) = wy (hj 32) ∧ ¬ wy (hj 28) = wy (hj 29) ∧ ¬ wy (hj 28) = wy (hj 30) ∧ ¬ wy (hj 28) = wy (hj 31) ∧ ¬ wy (hj 28) = wy (hj 32) ∧ ¬ wy (hj 29) = wy (hj 30) ∧ ¬ wy (hj 29) = wy (hj 31) ∧ ¬ wy (hj 29) = wy (hj 32) ∧ ¬ wy (hj 30) = wy (hj 31) ∧ ¬ wy (hj 30) = wy (hj 32) ∧ ¬ wy (hj 31) = wy (hj 32) := by decide +kernel
/-- from the word of a clause on: it is refused for room, or read -/
theorem R142w {c q : Int} (hT : TR S n M) (h0 : 0 ≤ q) (h1 : q ≤ n) (hb : pk M 142 5 = -1) (hN : RN S M) (hH : nho S) (hc : 0 ≤ c ∧ c ≤ 60) (hx : x = wrd S q (we S n q))
    (hw : wy x = wy (hj 25) ∨ wy x = wy (hj 26) ∨ wy x = wy (hj 27) ∨ wy x = wy (hj 28) ∨ wy x = wy (hj 29) ∨ wy x = wy (hj 30) ∨ wy x = wy (hj 31) ∨ wy x = wy (hj 32))
    (hK : RQ X s dh dl t M (bk 142 200 [(203, I_al 0 1), (204, I_c 1 0 0 59), (206, I_v 132 1 127), (209, I_inc 2 1), (212, I_go 75), (215, I_al 0 1), (216, I_gi 5 11 172), (219, I_c 0 0 0 (-1)), (220, I_icmp 1 227), (223, I_al 0 1), (224, I_v 143 0 128), (227, I_al 0 1), (228, I_al 0 1), (229, I_gi 22 11 189), (232, I_v 135 1 129), (235, I_ir 0)] [.ref 142, vI n, vI c, vJ x, .null] [] Q) (k_clause S n (decide (c = 60)) q (we S n q)))
    (hfa : ∀ k y S' M', ¬ k = 0 → k_clause S n (decide (c = 60)) q (we S n q) = (k, y, S') → NF M M' → pk M' 142 5 = y → pk M' 142 6 = k → ¬ y = -1 → EX 142 (sx 142 215) [.ref 142, vI n, vI c, vJ x, .null] [] (mkh X s dh dl t M') Q) : EX 142 (sx 142 113) [.ref 142, vI n, vI c, vJ x, .null] [] (mkh X s dh dl t (ra M q)) Q := by
  have n6 := hT.2.2
  have hwe := we_rng (S := S) h1
  have np := hH.np
  have ng := hH.ng
  have nd := hH.nd
  have gp := hN.np
  have gg := hN.ng
  have gd := hN.nd
  have u1 := wrd_iff (S := S) (n := n) (q := q) (j := 25) (by decide) h1
  have u2 := wrd_iff (S := S) (n := n) (q := q) (j := 26) (by decide) h1
  have u3 := wrd_iff (S := S) (n := n) (q := q) (j := 27) (by decide) h1
  have u4 := wrd_iff (S := S) (n := n) (q := q) (j := 28) (by decide) h1
  have u5 := wrd_iff (S := S) (n := n) (q := q) (j := 29) (by decide) h1
  have u6 := wrd_iff (S := S) (n := n) (q := q) (j := 30) (by decide) h1
  have u7 := wrd_iff (S := S) (n := n) (q := q) (j := 31) (by decide) h1
  have u8 := wrd_iff (S := S) (n := n) (q := q) (j := 32) (by decide) h1
  obtain ⟨w1, w2, w3, w4, w5, w6, w7, w8⟩ := wj
  rw [← hx] at u1 u2 u3 u4 u5 u6 u7 u8
  rw [w1] at u1
  rw [w2] at u2
  rw [w3] at u3
  rw [w4] at u4
  rw [w5] at u5
  rw [w6] at u6
  rw [w7] at u7
  rw [w8] at u8
  have v1 : (wy x = wy (hj 25)) = (isW S q (we S n q) (P_txt 1) = true) := u1
  have v2 : (wy x = wy (hj 26)) = (isW S q (we S n q) (P_txt 4) = true) := u2
  have v3 : (wy x = wy (hj 27)) = (isW S q (we S n q) (P_txt 2) = true) := u3
  have v4 : (wy x = wy (hj 28)) = (isW S q (we S n q) (P_txt 5) = true) := u4
  have v5 : (wy x = wy (hj 29)) = (isW S q (we S n q) (P_txt 6) = true) := u5
  have v6 : (wy x = wy (hj 30)) = (isW S q (we S n q) (P_txt 3) = true) := u6
  have v7 : (wy x = wy (hj 31)) = (isW S q (we S n q) (P_txt 7) = true) := u7
  have v8 : (wy x = wy (hj 32)) = (isW S q (we S n q) (P_txt 8) = true) := u8
  clear u1 u2 u3 u4 u5 u6 u7 u8 w1 w2 w3 w4 w5 w6 w7 w8
  have hfi : ∀ y, pk (ra M y) 142 5 = -1 := fun y => by rw [ra_x (by decide)]; exact hb
  have wq : wz q = q := wz_id (by omega) (by omega)
  have q1 : ¬ q = -1 := by omega
  obtain ⟨j1, j2, j3, j4, j5, j6, j7, j8, j9, j10, j11, j12, j13, j14, j15, j16, j17, j18, j19, j20, j21, j22, j23, j24, j25, j26, j27, j28⟩ := hjn
  -- refused for room
  have full : k_clause S n (decide (c = 60)) q (we S n q) = (3, q, S) → EX 142 (sx 142 175) [.ref 142, vI n, vI c, vJ x, .null] [] (mkh X s dh dl t (ra M q)) Q := by
    intro hk
    have e := hfa 3 q S (ra (po (po M 142 5 q) 142 6 3) q) (by decide) hk (by (repeat (first | exact NF.rfl | refine NF.pw ?_ rfl | refine NF.fil ?_ (by decide) | refine NF.ra ?_))) (by simp [pk_po, pk_flm, ra]; exact wq) (by simp [pk_po, pk_flm, ra]; rfl) q1
    have hb2 : ¬ pk (ra (po (po M 142 5 q) 142 6 3) q) 142 5 = -1 := by simp [pk_po, pk_flm, ra]; rw [wq]; exact q1
    rw [s_142_175]
    simp (disch := omega) only [↓x_al_0, ↓x_c, ↓pi_142_0, ↓x_il_1, ↓x_lt0, ↓gi_142_2, ↓x_gt, ↓x_go, ↓c_119, ↓x_ne0, ↓x_ir, ↓c_134, ↓pi_142_18, ↓pi_142_19, ↓pi_142_20, ↓x_is_2, ↓x_il_2, ↓x_ge, ↓gr_142_13, ↓x_inc_2, ↓c_123, ↓x_eq0, ↓c_133, ↓c_128, ↓x_ls_3, ↓x_ll_3, ↓c_141, ↓gi_142_4, ↓c_124, ↓x_eq, ↓x_str, ↓c_129, ↓x_lcw0, ↓x_lcw1, ↓gi_142_18, ↓gi_142_19, ↓gi_142_20, ↓x_ne, ↓c_130, ↓c_139, ↓c_132, ↓gi_142_5, ↓c_143, ↓gi_142_22, ↓c_135, ↓st_148, ↓n_142, ↓s_142_0, ↓s_142_22, ↓s_142_23, ↓s_142_33, ↓s_142_73, ↓s_142_113, ↓s_142_137, ↓s_142_156, ↓s_142_175, ↓s_142_184, ↓s_142_194, ↓s_142_227, ↓bk_v, ↓bk_n, ↓bk_r, ↓pv_i, ↓pv_r, ↓pv_0, ↓pv_l, wz_pk, wz_ti, wz_wz, vI_wz, wz_id, wz_0, List.length_cons, List.length_nil, ↓reduceIte, true_and, and_true, Int.reduceLE, Int.reduceLT, Int.reduceEq, not_true_eq_false, not_false_eq_true, false_or, or_false, true_or, or_true, ite_not, Int.reduceNeg, Int32.reduceToInt, Nat.reduceAdd, Nat.reduceLeDiff, Nat.reduceLT, Nat.reduceEqDiff, Int.reduceAdd, Int.reduceSub, Int.reduceMul, Nat.zero_le, pk_po_ne, pk_po_eq, pk_po_ix, rI, ne_eq, ra_4, ↓R124f (hfi _), ra_px, ↓R123, hb2, decide_false, bi_wz, bi_0, if_true]
    exact e
  -- read
  have go : CL 139 [.ref 142, vJ x] (mkh X s dh dl t (ra M (we S n q))) (bk 142 200 [(203, I_al 0 1), (204, I_c 1 0 0 59), (206, I_v 132 1 127), (209, I_inc 2 1), (212, I_go 75), (215, I_al 0 1), (216, I_gi 5 11 172), (219, I_c 0 0 0 (-1)), (220, I_icmp 1 227), (223, I_al 0 1), (224, I_v 143 0 128), (227, I_al 0 1), (228, I_al 0 1), (229, I_gi 22 11 189), (232, I_v 135 1 129), (235, I_ir 0)] [.ref 142, vI n, vI c, vJ x, .null] [] Q) → EX 142 (sx 142 184) [.ref 142, vI n, vI c, vJ x, .null] [] (mkh X s dh dl t (ra M q)) Q := by
    intro hh
    rw [s_142_184]
    simp (disch := omega) only [↓x_al_0, ↓x_c, ↓pi_142_0, ↓x_il_1, ↓x_lt0, ↓gi_142_2, ↓x_gt, ↓x_go, ↓c_119, ↓x_ne0, ↓x_ir, ↓c_134, ↓pi_142_18, ↓pi_142_19, ↓pi_142_20, ↓x_is_2, ↓x_il_2, ↓x_ge, ↓gr_142_13, ↓x_inc_2, ↓c_123, ↓x_eq0, ↓c_133, ↓c_128, ↓x_ls_3, ↓x_ll_3, ↓c_141, ↓gi_142_4, ↓c_124, ↓x_eq, ↓x_str, ↓c_129, ↓x_lcw0, ↓x_lcw1, ↓gi_142_18, ↓gi_142_19, ↓gi_142_20, ↓x_ne, ↓c_130, ↓c_139, ↓c_132, ↓gi_142_5, ↓c_143, ↓gi_142_22, ↓c_135, ↓st_148, ↓n_142, ↓s_142_0, ↓s_142_22, ↓s_142_23, ↓s_142_33, ↓s_142_73, ↓s_142_113, ↓s_142_137, ↓s_142_156, ↓s_142_175, ↓s_142_184, ↓s_142_194, ↓s_142_215, ↓s_142_227, ↓bk_v, ↓bk_n, ↓bk_r, ↓pv_i, ↓pv_r, ↓pv_0, ↓pv_l, wz_pk, wz_ti, wz_wz, vI_wz, wz_id, wz_0, List.length_cons, List.length_nil, ↓reduceIte, true_and, and_true, Int.reduceLE, Int.reduceLT, Int.reduceEq, not_true_eq_false, not_false_eq_true, false_or, or_false, true_or, or_true, ite_not, Int.reduceNeg, Int32.reduceToInt, Nat.reduceAdd, Nat.reduceLeDiff, Nat.reduceLT, Nat.reduceEqDiff, Int.reduceAdd, Int.reduceSub, Int.reduceMul, Nat.zero_le, pk_po_ne, pk_po_eq, pk_po_ix, rI, ne_eq, ↓R123, hfi, decide_true, bi_wz, bi_0, Bool.true_eq_false, if_false, ↓R130 hT h0 h1]
    exact hh
  have wc : wz c = c := wz_id (by omega) (by omega)
  have rj : ∀ (Q : MOut → MHp → Prop) (h : MHp), (CL 129 [.ref (mK + 25)] h Q ↔ Q (.inl (some (vJ (hj 25)))) h) ∧ (CL 129 [.ref (mK + 27)] h Q ↔ Q (.inl (some (vJ (hj 27)))) h) ∧ (CL 129 [.ref (mK + 30)] h Q ↔ Q (.inl (some (vJ (hj 30)))) h) := fun Q h => ⟨R129j (by decide) (by decide), R129j (by decide) (by decide), R129j (by decide) (by decide)⟩
  rw [s_142_113]
  by_cases c60 : c = 60
  · have dk : decide (c = 60) = true := by simp [c60]
    have kk : k_clause S n (decide (c = 60)) q (we S n q) = (3, q, S) := by
      rw [dk]
      rw [v1, v2, v3, v4, v5, v6, v7, v8] at hw
      unfold k_clause
      simp only [true_or, if_true]
      grind
    have f := full kk
    simp (disch := omega) only [↓x_al_0, ↓x_c, ↓pi_142_0, ↓x_il_1, ↓x_lt0, ↓gi_142_2, ↓x_gt, ↓x_go, ↓c_119, ↓x_ne0, ↓x_ir, ↓c_134, ↓pi_142_18, ↓pi_142_19, ↓pi_142_20, ↓x_is_2, ↓x_il_2, ↓x_ge, ↓gr_142_13, ↓x_inc_2, ↓c_123, ↓x_eq0, ↓c_133, ↓c_128, ↓x_ls_3, ↓x_ll_3, ↓c_141, ↓gi_142_4, ↓c_124, ↓x_eq, ↓x_str, ↓c_129, ↓x_lcw0, ↓x_lcw1, ↓gi_142_18, ↓gi_142_19, ↓gi_142_20, ↓x_ne, ↓c_130, ↓c_139, ↓c_132, ↓gi_142_5, ↓c_143, ↓gi_142_22, ↓c_135, ↓st_148, ↓n_142, ↓s_142_0, ↓s_142_22, ↓s_142_23, ↓s_142_33, ↓s_142_73, ↓s_142_113, ↓s_142_137, ↓s_142_156, ↓s_142_194, ↓s_142_215, ↓s_142_227, ↓bk_v, ↓bk_n, ↓bk_r, ↓pv_i, ↓pv_r, ↓pv_0, ↓pv_l, wz_pk, wz_ti, wz_wz, vI_wz, wz_id, wz_0, List.length_cons, List.length_nil, ↓reduceIte, true_and, and_true, Int.reduceLE, Int.reduceLT, Int.reduceEq, not_true_eq_false, not_false_eq_true, false_or, or_false, true_or, or_true, ite_not, Int.reduceNeg, Int32.reduceToInt, Nat.reduceAdd, Nat.reduceLeDiff, Nat.reduceLT, Nat.reduceEqDiff, Int.reduceAdd, Int.reduceSub, Int.reduceMul, Nat.zero_le, pk_po_ne, pk_po_eq, pk_po_ix, rI, ne_eq, wc, c60, if_true]
    rw [c60] at f
    exact f
  · have dk : decide (c = 60) = false := by simp [c60]
    rcases hw with h | h | h | h | h | h | h | h
    · -- person
      have i1 := v1.mp h
      by_cases r : S 33 0 = 4
      · have f := full (by rw [dk, k_clause, if_pos i1, if_pos (Or.inr (by omega))])
        simp (disch := omega) only [↓x_al_0, ↓x_c, ↓pi_142_0, ↓x_il_1, ↓x_lt0, ↓gi_142_2, ↓x_gt, ↓x_go, ↓c_119, ↓x_ne0, ↓x_ir, ↓c_134, ↓pi_142_18, ↓pi_142_19, ↓pi_142_20, ↓x_is_2, ↓x_il_2, ↓x_ge, ↓gr_142_13, ↓x_inc_2, ↓c_123, ↓x_eq0, ↓c_133, ↓c_128, ↓x_ls_3, ↓x_ll_3, ↓c_141, ↓gi_142_4, ↓c_124, ↓x_eq, ↓x_str, ↓c_129, ↓x_lcw0, ↓x_lcw1, ↓gi_142_18, ↓gi_142_19, ↓gi_142_20, ↓x_ne, ↓c_130, ↓c_139, ↓c_132, ↓gi_142_5, ↓c_143, ↓gi_142_22, ↓c_135, ↓st_148, ↓n_142, ↓s_142_0, ↓s_142_22, ↓s_142_23, ↓s_142_33, ↓s_142_73, ↓s_142_113, ↓s_142_137, ↓s_142_156, ↓s_142_194, ↓s_142_215, ↓s_142_227, ↓bk_v, ↓bk_n, ↓bk_r, ↓pv_i, ↓pv_r, ↓pv_0, ↓pv_l, wz_pk, wz_ti, wz_wz, vI_wz, wz_id, wz_0, List.length_cons, List.length_nil, ↓reduceIte, true_and, and_true, Int.reduceLE, Int.reduceLT, Int.reduceEq, not_true_eq_false, not_false_eq_true, false_or, or_false, true_or, or_true, ite_not, Int.reduceNeg, Int32.reduceToInt, Nat.reduceAdd, Nat.reduceLeDiff, Nat.reduceLT, Nat.reduceEqDiff, Int.reduceAdd, Int.reduceSub, Int.reduceMul, Nat.zero_le, pk_po_ne, pk_po_eq, pk_po_ix, rI, ne_eq, wc, c60, if_false, ↓R129j (j := 25) (by decide) (by decide), h, if_true, ra_x, gp, r]
        exact f
      · have z := go (R139p hT (by omega) hwe.2 hb hN hH (by omega) h (by rw [dk, k_clause, if_pos i1, if_neg (by simp; omega)] at hK; exact hK))
        simp (disch := omega) only [↓x_al_0, ↓x_c, ↓pi_142_0, ↓x_il_1, ↓x_lt0, ↓gi_142_2, ↓x_gt, ↓x_go, ↓c_119, ↓x_ne0, ↓x_ir, ↓c_134, ↓pi_142_18, ↓pi_142_19, ↓pi_142_20, ↓x_is_2, ↓x_il_2, ↓x_ge, ↓gr_142_13, ↓x_inc_2, ↓c_123, ↓x_eq0, ↓c_133, ↓c_128, ↓x_ls_3, ↓x_ll_3, ↓c_141, ↓gi_142_4, ↓c_124, ↓x_eq, ↓x_str, ↓c_129, ↓x_lcw0, ↓x_lcw1, ↓gi_142_18, ↓gi_142_19, ↓gi_142_20, ↓x_ne, ↓c_130, ↓c_139, ↓c_132, ↓gi_142_5, ↓c_143, ↓gi_142_22, ↓c_135, ↓st_148, ↓n_142, ↓s_142_0, ↓s_142_22, ↓s_142_23, ↓s_142_33, ↓s_142_73, ↓s_142_113, ↓s_142_137, ↓s_142_156, ↓s_142_194, ↓s_142_215, ↓s_142_227, ↓bk_v, ↓bk_n, ↓bk_r, ↓pv_i, ↓pv_r, ↓pv_0, ↓pv_l, wz_pk, wz_ti, wz_wz, vI_wz, wz_id, wz_0, List.length_cons, List.length_nil, ↓reduceIte, true_and, and_true, Int.reduceLE, Int.reduceLT, Int.reduceEq, not_true_eq_false, not_false_eq_true, false_or, or_false, true_or, or_true, ite_not, Int.reduceNeg, Int32.reduceToInt, Nat.reduceAdd, Nat.reduceLeDiff, Nat.reduceLT, Nat.reduceEqDiff, Int.reduceAdd, Int.reduceSub, Int.reduceMul, Nat.zero_le, pk_po_ne, pk_po_eq, pk_po_ix, rI, ne_eq, wc, c60, if_false, ↓R129j (j := 25) (by decide) (by decide), ↓R129j (j := 27) (by decide) (by decide), ↓R129j (j := 30) (by decide) (by decide), h, if_true, ra_x, gp, wz_of gp, r, j2, j5]
        exact z
    · -- month
      have n1 : ¬ wy x = wy (hj 25) := by rw [h]; exact fun e => j1 e.symm
      have n3 : ¬ wy x = wy (hj 27) := by rw [h]; exact j8
      have n6' : ¬ wy x = wy (hj 30) := by rw [h]; exact j11
      have i1 := v2.mp h
      have m1 := fun e => n1 (v1.mpr e)
      have m3 := fun e => n3 (v3.mpr e)
      have m6 := fun e => n6' (v6.mpr e)
      have z := go (R139m hT (by omega) hwe.2 hb hN hH n1 h (by rw [dk, k_clause, if_neg m1, if_neg m3, if_neg m6, if_pos i1, if_neg (by decide)] at hK; exact hK))
      simp (disch := omega) only [↓x_al_0, ↓x_c, ↓pi_142_0, ↓x_il_1, ↓x_lt0, ↓gi_142_2, ↓x_gt, ↓x_go, ↓c_119, ↓x_ne0, ↓x_ir, ↓c_134, ↓pi_142_18, ↓pi_142_19, ↓pi_142_20, ↓x_is_2, ↓x_il_2, ↓x_ge, ↓gr_142_13, ↓x_inc_2, ↓c_123, ↓x_eq0, ↓c_133, ↓c_128, ↓x_ls_3, ↓x_ll_3, ↓c_141, ↓gi_142_4, ↓c_124, ↓x_eq, ↓x_str, ↓c_129, ↓x_lcw0, ↓x_lcw1, ↓gi_142_18, ↓gi_142_19, ↓gi_142_20, ↓x_ne, ↓c_130, ↓c_139, ↓c_132, ↓gi_142_5, ↓c_143, ↓gi_142_22, ↓c_135, ↓st_148, ↓n_142, ↓s_142_0, ↓s_142_22, ↓s_142_23, ↓s_142_33, ↓s_142_73, ↓s_142_113, ↓s_142_137, ↓s_142_156, ↓s_142_194, ↓s_142_215, ↓s_142_227, ↓bk_v, ↓bk_n, ↓bk_r, ↓pv_i, ↓pv_r, ↓pv_0, ↓pv_l, wz_pk, wz_ti, wz_wz, vI_wz, wz_id, wz_0, List.length_cons, List.length_nil, ↓reduceIte, true_and, and_true, Int.reduceLE, Int.reduceLT, Int.reduceEq, not_true_eq_false, not_false_eq_true, false_or, or_false, true_or, or_true, ite_not, Int.reduceNeg, Int32.reduceToInt, Nat.reduceAdd, Nat.reduceLeDiff, Nat.reduceLT, Nat.reduceEqDiff, Int.reduceAdd, Int.reduceSub, Int.reduceMul, Nat.zero_le, pk_po_ne, pk_po_eq, pk_po_ix, rI, ne_eq, wc, c60, if_false, ↓R129j (j := 25) (by decide) (by decide), ↓R129j (j := 27) (by decide) (by decide), ↓R129j (j := 30) (by decide) (by decide), n1, n3, n6']
      exact z
    · -- good
      have n1 : ¬ wy x = wy (hj 25) := by rw [h]; exact fun e => j2 e.symm
      have n2 : ¬ wy x = wy (hj 26) := by rw [h]; exact fun e => j8 e.symm
      have n6' : ¬ wy x = wy (hj 30) := by rw [h]; exact j16
      have i1 := v3.mp h
      have m1 := fun e => n1 (v1.mpr e)
      by_cases r : S 33 1 = 12
      · have f := full (by rw [dk, k_clause, if_neg m1, if_pos i1, if_pos (Or.inr (by omega))])
        have n25 : ¬ wy (hj 27) = wy (hj 25) := fun e => j2 e.symm
        simp (disch := omega) only [↓x_al_0, ↓x_c, ↓pi_142_0, ↓x_il_1, ↓x_lt0, ↓gi_142_2, ↓x_gt, ↓x_go, ↓c_119, ↓x_ne0, ↓x_ir, ↓c_134, ↓pi_142_18, ↓pi_142_19, ↓pi_142_20, ↓x_is_2, ↓x_il_2, ↓x_ge, ↓gr_142_13, ↓x_inc_2, ↓c_123, ↓x_eq0, ↓c_133, ↓c_128, ↓x_ls_3, ↓x_ll_3, ↓c_141, ↓gi_142_4, ↓c_124, ↓x_eq, ↓x_str, ↓c_129, ↓x_lcw0, ↓x_lcw1, ↓gi_142_18, ↓gi_142_19, ↓gi_142_20, ↓x_ne, ↓c_130, ↓c_139, ↓c_132, ↓gi_142_5, ↓c_143, ↓gi_142_22, ↓c_135, ↓st_148, ↓n_142, ↓s_142_0, ↓s_142_22, ↓s_142_23, ↓s_142_33, ↓s_142_73, ↓s_142_113, ↓s_142_137, ↓s_142_156, ↓s_142_194, ↓s_142_215, ↓s_142_227, ↓bk_v, ↓bk_n, ↓bk_r, ↓pv_i, ↓pv_r, ↓pv_0, ↓pv_l, wz_pk, wz_ti, wz_wz, vI_wz, wz_id, wz_0, List.length_cons, List.length_nil, ↓reduceIte, true_and, and_true, Int.reduceLE, Int.reduceLT, Int.reduceEq, not_true_eq_false, not_false_eq_true, false_or, or_false, true_or, or_true, ite_not, Int.reduceNeg, Int32.reduceToInt, Nat.reduceAdd, Nat.reduceLeDiff, Nat.reduceLT, Nat.reduceEqDiff, Int.reduceAdd, Int.reduceSub, Int.reduceMul, Nat.zero_le, pk_po_ne, pk_po_eq, pk_po_ix, rI, ne_eq, wc, c60, if_false, ↓R129j (j := 25) (by decide) (by decide), ↓R129j (j := 27) (by decide) (by decide), h, n25, if_true, ra_x, gg, r]
        exact f
      · have z := go (R139g hT (by omega) hwe.2 hb hN hH (by omega) n1 n2 h (by rw [dk, k_clause, if_neg m1, if_pos i1, if_neg (by simp; omega)] at hK; exact hK))
        have n25 : ¬ wy (hj 27) = wy (hj 25) := fun e => j2 e.symm
        simp (disch := omega) only [↓x_al_0, ↓x_c, ↓pi_142_0, ↓x_il_1, ↓x_lt0, ↓gi_142_2, ↓x_gt, ↓x_go, ↓c_119, ↓x_ne0, ↓x_ir, ↓c_134, ↓pi_142_18, ↓pi_142_19, ↓pi_142_20, ↓x_is_2, ↓x_il_2, ↓x_ge, ↓gr_142_13, ↓x_inc_2, ↓c_123, ↓x_eq0, ↓c_133, ↓c_128, ↓x_ls_3, ↓x_ll_3, ↓c_141, ↓gi_142_4, ↓c_124, ↓x_eq, ↓x_str, ↓c_129, ↓x_lcw0, ↓x_lcw1, ↓gi_142_18, ↓gi_142_19, ↓gi_142_20, ↓x_ne, ↓c_130, ↓c_139, ↓c_132, ↓gi_142_5, ↓c_143, ↓gi_142_22, ↓c_135, ↓st_148, ↓n_142, ↓s_142_0, ↓s_142_22, ↓s_142_23, ↓s_142_33, ↓s_142_73, ↓s_142_113, ↓s_142_137, ↓s_142_156, ↓s_142_194, ↓s_142_215, ↓s_142_227, ↓bk_v, ↓bk_n, ↓bk_r, ↓pv_i, ↓pv_r, ↓pv_0, ↓pv_l, wz_pk, wz_ti, wz_wz, vI_wz, wz_id, wz_0, List.length_cons, List.length_nil, ↓reduceIte, true_and, and_true, Int.reduceLE, Int.reduceLT, Int.reduceEq, not_true_eq_false, not_false_eq_true, false_or, or_false, true_or, or_true, ite_not, Int.reduceNeg, Int32.reduceToInt, Nat.reduceAdd, Nat.reduceLeDiff, Nat.reduceLT, Nat.reduceEqDiff, Int.reduceAdd, Int.reduceSub, Int.reduceMul, Nat.zero_le, pk_po_ne, pk_po_eq, pk_po_ix, rI, ne_eq, wc, c60, if_false, ↓R129j (j := 25) (by decide) (by decide), ↓R129j (j := 27) (by decide) (by decide), ↓R129j (j := 30) (by decide) (by decide), h, n25, if_true, ra_x, gg, wz_of gg, r, j16]
        exact z
    · -- part
      have n1 : ¬ wy x = wy (hj 25) := by rw [h]; exact fun e => j3 e.symm
      have n2 : ¬ wy x = wy (hj 26) := by rw [h]; exact fun e => j9 e.symm
      have n3 : ¬ wy x = wy (hj 27) := by rw [h]; exact fun e => j14 e.symm
      have n6' : ¬ wy x = wy (hj 30) := by rw [h]; exact j20
      have i1 := v4.mp h
      have m1 := fun e => n1 (v1.mpr e)
      have m2 := fun e => n2 (v2.mpr e)
      have m3 := fun e => n3 (v3.mpr e)
      have m6 := fun e => n6' (v6.mpr e)
      have z := go (R139t hT (by omega) hwe.2 hb hN hH n1 n2 n3 h (by rw [dk, k_clause, if_neg m1, if_neg m3, if_neg m6, if_neg m2, if_pos i1, if_neg (by decide)] at hK; exact hK))
      simp (disch := omega) only [↓x_al_0, ↓x_c, ↓pi_142_0, ↓x_il_1, ↓x_lt0, ↓gi_142_2, ↓x_gt, ↓x_go, ↓c_119, ↓x_ne0, ↓x_ir, ↓c_134, ↓pi_142_18, ↓pi_142_19, ↓pi_142_20, ↓x_is_2, ↓x_il_2, ↓x_ge, ↓gr_142_13, ↓x_inc_2, ↓c_123, ↓x_eq0, ↓c_133, ↓c_128, ↓x_ls_3, ↓x_ll_3, ↓c_141, ↓gi_142_4, ↓c_124, ↓x_eq, ↓x_str, ↓c_129, ↓x_lcw0, ↓x_lcw1, ↓gi_142_18, ↓gi_142_19, ↓gi_142_20, ↓x_ne, ↓c_130, ↓c_139, ↓c_132, ↓gi_142_5, ↓c_143, ↓gi_142_22, ↓c_135, ↓st_148, ↓n_142, ↓s_142_0, ↓s_142_22, ↓s_142_23, ↓s_142_33, ↓s_142_73, ↓s_142_113, ↓s_142_137, ↓s_142_156, ↓s_142_194, ↓s_142_215, ↓s_142_227, ↓bk_v, ↓bk_n, ↓bk_r, ↓pv_i, ↓pv_r, ↓pv_0, ↓pv_l, wz_pk, wz_ti, wz_wz, vI_wz, wz_id, wz_0, List.length_cons, List.length_nil, ↓reduceIte, true_and, and_true, Int.reduceLE, Int.reduceLT, Int.reduceEq, not_true_eq_false, not_false_eq_true, false_or, or_false, true_or, or_true, ite_not, Int.reduceNeg, Int32.reduceToInt, Nat.reduceAdd, Nat.reduceLeDiff, Nat.reduceLT, Nat.reduceEqDiff, Int.reduceAdd, Int.reduceSub, Int.reduceMul, Nat.zero_le, pk_po_ne, pk_po_eq, pk_po_ix, rI, ne_eq, wc, c60, if_false, ↓R129j (j := 25) (by decide) (by decide), ↓R129j (j := 27) (by decide) (by decide), ↓R129j (j := 30) (by decide) (by decide), n1, n3, n6']
      exact z
    · -- claim
      have n1 : ¬ wy x = wy (hj 25) := by rw [h]; exact fun e => j4 e.symm
      have n2 : ¬ wy x = wy (hj 26) := by rw [h]; exact fun e => j10 e.symm
      have n3 : ¬ wy x = wy (hj 27) := by rw [h]; exact fun e => j15 e.symm
      have n4 : ¬ wy x = wy (hj 28) := by rw [h]; exact fun e => j19 e.symm
      have n6' : ¬ wy x = wy (hj 30) := by rw [h]; exact j23
      have i1 := v5.mp h
      have m1 := fun e => n1 (v1.mpr e)
      have m2 := fun e => n2 (v2.mpr e)
      have m3 := fun e => n3 (v3.mpr e)
      have m4 := fun e => n4 (v4.mpr e)
      have m6 := fun e => n6' (v6.mpr e)
      have z := go (R139c hT (by omega) hwe.2 hb hN hH n1 n2 n3 n4 h (by rw [dk, k_clause, if_neg m1, if_neg m3, if_neg m6, if_neg m2, if_neg m4, if_pos i1, if_neg (by decide)] at hK; exact hK))
      simp (disch := omega) only [↓x_al_0, ↓x_c, ↓pi_142_0, ↓x_il_1, ↓x_lt0, ↓gi_142_2, ↓x_gt, ↓x_go, ↓c_119, ↓x_ne0, ↓x_ir, ↓c_134, ↓pi_142_18, ↓pi_142_19, ↓pi_142_20, ↓x_is_2, ↓x_il_2, ↓x_ge, ↓gr_142_13, ↓x_inc_2, ↓c_123, ↓x_eq0, ↓c_133, ↓c_128, ↓x_ls_3, ↓x_ll_3, ↓c_141, ↓gi_142_4, ↓c_124, ↓x_eq, ↓x_str, ↓c_129, ↓x_lcw0, ↓x_lcw1, ↓gi_142_18, ↓gi_142_19, ↓gi_142_20, ↓x_ne, ↓c_130, ↓c_139, ↓c_132, ↓gi_142_5, ↓c_143, ↓gi_142_22, ↓c_135, ↓st_148, ↓n_142, ↓s_142_0, ↓s_142_22, ↓s_142_23, ↓s_142_33, ↓s_142_73, ↓s_142_113, ↓s_142_137, ↓s_142_156, ↓s_142_194, ↓s_142_215, ↓s_142_227, ↓bk_v, ↓bk_n, ↓bk_r, ↓pv_i, ↓pv_r, ↓pv_0, ↓pv_l, wz_pk, wz_ti, wz_wz, vI_wz, wz_id, wz_0, List.length_cons, List.length_nil, ↓reduceIte, true_and, and_true, Int.reduceLE, Int.reduceLT, Int.reduceEq, not_true_eq_false, not_false_eq_true, false_or, or_false, true_or, or_true, ite_not, Int.reduceNeg, Int32.reduceToInt, Nat.reduceAdd, Nat.reduceLeDiff, Nat.reduceLT, Nat.reduceEqDiff, Int.reduceAdd, Int.reduceSub, Int.reduceMul, Nat.zero_le, pk_po_ne, pk_po_eq, pk_po_ix, rI, ne_eq, wc, c60, if_false, ↓R129j (j := 25) (by decide) (by decide), ↓R129j (j := 27) (by decide) (by decide), ↓R129j (j := 30) (by decide) (by decide), n1, n3, n6']
      exact z
    · -- debt
      have n1 : ¬ wy x = wy (hj 25) := by rw [h]; exact fun e => j5 e.symm
      have n2 : ¬ wy x = wy (hj 26) := by rw [h]; exact fun e => j11 e.symm
      have n3 : ¬ wy x = wy (hj 27) := by rw [h]; exact fun e => j16 e.symm
      have n4 : ¬ wy x = wy (hj 28) := by rw [h]; exact fun e => j20 e.symm
      have n5 : ¬ wy x = wy (hj 29) := by rw [h]; exact fun e => j23 e.symm
      have i1 := v6.mp h
      have m1 := fun e => n1 (v1.mpr e)
      have m3 := fun e => n3 (v3.mpr e)
      have n25 : ¬ wy (hj 30) = wy (hj 25) := fun e => j5 e.symm
      have n27 : ¬ wy (hj 30) = wy (hj 27) := fun e => j16 e.symm
      by_cases r : S 33 2 = 6
      · have f := full (by rw [dk, k_clause, if_neg m1, if_neg m3, if_pos i1, if_pos (Or.inr (by omega))])
        simp (disch := omega) only [↓x_al_0, ↓x_c, ↓pi_142_0, ↓x_il_1, ↓x_lt0, ↓gi_142_2, ↓x_gt, ↓x_go, ↓c_119, ↓x_ne0, ↓x_ir, ↓c_134, ↓pi_142_18, ↓pi_142_19, ↓pi_142_20, ↓x_is_2, ↓x_il_2, ↓x_ge, ↓gr_142_13, ↓x_inc_2, ↓c_123, ↓x_eq0, ↓c_133, ↓c_128, ↓x_ls_3, ↓x_ll_3, ↓c_141, ↓gi_142_4, ↓c_124, ↓x_eq, ↓x_str, ↓c_129, ↓x_lcw0, ↓x_lcw1, ↓gi_142_18, ↓gi_142_19, ↓gi_142_20, ↓x_ne, ↓c_130, ↓c_139, ↓c_132, ↓gi_142_5, ↓c_143, ↓gi_142_22, ↓c_135, ↓st_148, ↓n_142, ↓s_142_0, ↓s_142_22, ↓s_142_23, ↓s_142_33, ↓s_142_73, ↓s_142_113, ↓s_142_137, ↓s_142_156, ↓s_142_194, ↓s_142_215, ↓s_142_227, ↓bk_v, ↓bk_n, ↓bk_r, ↓pv_i, ↓pv_r, ↓pv_0, ↓pv_l, wz_pk, wz_ti, wz_wz, vI_wz, wz_id, wz_0, List.length_cons, List.length_nil, ↓reduceIte, true_and, and_true, Int.reduceLE, Int.reduceLT, Int.reduceEq, not_true_eq_false, not_false_eq_true, false_or, or_false, true_or, or_true, ite_not, Int.reduceNeg, Int32.reduceToInt, Nat.reduceAdd, Nat.reduceLeDiff, Nat.reduceLT, Nat.reduceEqDiff, Int.reduceAdd, Int.reduceSub, Int.reduceMul, Nat.zero_le, pk_po_ne, pk_po_eq, pk_po_ix, rI, ne_eq, wc, c60, if_false, ↓R129j (j := 25) (by decide) (by decide), ↓R129j (j := 27) (by decide) (by decide), ↓R129j (j := 30) (by decide) (by decide), h, n25, n27, if_true, ra_x, gd, r]
        exact f
      · have z := go (R139d hT (by omega) hwe.2 hb hN hH (by omega) n1 n2 n3 n4 n5 h (by rw [dk, k_clause, if_neg m1, if_neg m3, if_pos i1, if_neg (by simp; omega)] at hK; exact hK))
        simp (disch := omega) only [↓x_al_0, ↓x_c, ↓pi_142_0, ↓x_il_1, ↓x_lt0, ↓gi_142_2, ↓x_gt, ↓x_go, ↓c_119, ↓x_ne0, ↓x_ir, ↓c_134, ↓pi_142_18, ↓pi_142_19, ↓pi_142_20, ↓x_is_2, ↓x_il_2, ↓x_ge, ↓gr_142_13, ↓x_inc_2, ↓c_123, ↓x_eq0, ↓c_133, ↓c_128, ↓x_ls_3, ↓x_ll_3, ↓c_141, ↓gi_142_4, ↓c_124, ↓x_eq, ↓x_str, ↓c_129, ↓x_lcw0, ↓x_lcw1, ↓gi_142_18, ↓gi_142_19, ↓gi_142_20, ↓x_ne, ↓c_130, ↓c_139, ↓c_132, ↓gi_142_5, ↓c_143, ↓gi_142_22, ↓c_135, ↓st_148, ↓n_142, ↓s_142_0, ↓s_142_22, ↓s_142_23, ↓s_142_33, ↓s_142_73, ↓s_142_113, ↓s_142_137, ↓s_142_156, ↓s_142_194, ↓s_142_215, ↓s_142_227, ↓bk_v, ↓bk_n, ↓bk_r, ↓pv_i, ↓pv_r, ↓pv_0, ↓pv_l, wz_pk, wz_ti, wz_wz, vI_wz, wz_id, wz_0, List.length_cons, List.length_nil, ↓reduceIte, true_and, and_true, Int.reduceLE, Int.reduceLT, Int.reduceEq, not_true_eq_false, not_false_eq_true, false_or, or_false, true_or, or_true, ite_not, Int.reduceNeg, Int32.reduceToInt, Nat.reduceAdd, Nat.reduceLeDiff, Nat.reduceLT, Nat.reduceEqDiff, Int.reduceAdd, Int.reduceSub, Int.reduceMul, Nat.zero_le, pk_po_ne, pk_po_eq, pk_po_ix, rI, ne_eq, wc, c60, if_false, ↓R129j (j := 25) (by decide) (by decide), ↓R129j (j := 27) (by decide) (by decide), ↓R129j (j := 30) (by decide) (by decide), h, n25, n27, if_true, ra_x, gd, wz_of gd, r]
        exact z
    · -- ill
      have n1 : ¬ wy x = wy (hj 25) := by rw [h]; exact fun e => j6 e.symm
      have n2 : ¬ wy x = wy (hj 26) := by rw [h]; exact fun e => j12 e.symm
      have n3 : ¬ wy x = wy (hj 27) := by rw [h]; exact fun e => j17 e.symm
      have n4 : ¬ wy x = wy (hj 28) := by rw [h]; exact fun e => j21 e.symm
      have n5 : ¬ wy x = wy (hj 29) := by rw [h]; exact fun e => j24 e.symm
      have n6' : ¬ wy x = wy (hj 30) := by rw [h]; exact fun e => j26 e.symm
      have i1 := v7.mp h
      have m1 := fun e => n1 (v1.mpr e)
      have m2 := fun e => n2 (v2.mpr e)
      have m3 := fun e => n3 (v3.mpr e)
      have m4 := fun e => n4 (v4.mpr e)
      have m5 := fun e => n5 (v5.mpr e)
      have m6 := fun e => n6' (v6.mpr e)
      have z := go (R139i hT (by omega) hwe.2 hb hN hH n1 n2 n3 n4 n5 n6' h (by rw [dk, k_clause, if_neg m1, if_neg m3, if_neg m6, if_neg m2, if_neg m4, if_neg m5, if_pos i1, if_neg (by decide)] at hK; exact hK))
      simp (disch := omega) only [↓x_al_0, ↓x_c, ↓pi_142_0, ↓x_il_1, ↓x_lt0, ↓gi_142_2, ↓x_gt, ↓x_go, ↓c_119, ↓x_ne0, ↓x_ir, ↓c_134, ↓pi_142_18, ↓pi_142_19, ↓pi_142_20, ↓x_is_2, ↓x_il_2, ↓x_ge, ↓gr_142_13, ↓x_inc_2, ↓c_123, ↓x_eq0, ↓c_133, ↓c_128, ↓x_ls_3, ↓x_ll_3, ↓c_141, ↓gi_142_4, ↓c_124, ↓x_eq, ↓x_str, ↓c_129, ↓x_lcw0, ↓x_lcw1, ↓gi_142_18, ↓gi_142_19, ↓gi_142_20, ↓x_ne, ↓c_130, ↓c_139, ↓c_132, ↓gi_142_5, ↓c_143, ↓gi_142_22, ↓c_135, ↓st_148, ↓n_142, ↓s_142_0, ↓s_142_22, ↓s_142_23, ↓s_142_33, ↓s_142_73, ↓s_142_113, ↓s_142_137, ↓s_142_156, ↓s_142_194, ↓s_142_215, ↓s_142_227, ↓bk_v, ↓bk_n, ↓bk_r, ↓pv_i, ↓pv_r, ↓pv_0, ↓pv_l, wz_pk, wz_ti, wz_wz, vI_wz, wz_id, wz_0, List.length_cons, List.length_nil, ↓reduceIte, true_and, and_true, Int.reduceLE, Int.reduceLT, Int.reduceEq, not_true_eq_false, not_false_eq_true, false_or, or_false, true_or, or_true, ite_not, Int.reduceNeg, Int32.reduceToInt, Nat.reduceAdd, Nat.reduceLeDiff, Nat.reduceLT, Nat.reduceEqDiff, Int.reduceAdd, Int.reduceSub, Int.reduceMul, Nat.zero_le, pk_po_ne, pk_po_eq, pk_po_ix, rI, ne_eq, wc, c60, if_false, ↓R129j (j := 25) (by decide) (by decide), ↓R129j (j := 27) (by decide) (by decide), ↓R129j (j := 30) (by decide) (by decide), n1, n3, n6']
      exact z
    · -- fee
      have n1 : ¬ wy x = wy (hj 25) := by rw [h]; exact fun e => j7 e.symm
      have n2 : ¬ wy x = wy (hj 26) := by rw [h]; exact fun e => j13 e.symm
      have n3 : ¬ wy x = wy (hj 27) := by rw [h]; exact fun e => j18 e.symm
      have n4 : ¬ wy x = wy (hj 28) := by rw [h]; exact fun e => j22 e.symm
      have n5 : ¬ wy x = wy (hj 29) := by rw [h]; exact fun e => j25 e.symm
      have n6' : ¬ wy x = wy (hj 30) := by rw [h]; exact fun e => j27 e.symm
      have n7 : ¬ wy x = wy (hj 31) := by rw [h]; exact fun e => j28 e.symm
      have i1 := v8.mp h
      have m1 := fun e => n1 (v1.mpr e)
      have m2 := fun e => n2 (v2.mpr e)
      have m3 := fun e => n3 (v3.mpr e)
      have m4 := fun e => n4 (v4.mpr e)
      have m5 := fun e => n5 (v5.mpr e)
      have m6 := fun e => n6' (v6.mpr e)
      have m7 := fun e => n7 (v7.mpr e)
      have z := go (R139f hT (by omega) hwe.2 hb hN hH n1 n2 n3 n4 n5 n6' n7 (by rw [dk, k_clause, if_neg m1, if_neg m3, if_neg m6, if_neg m2, if_neg m4, if_neg m5, if_neg m7, if_pos i1, if_neg (by decide)] at hK; exact hK))
      simp (disch := omega) only [↓x_al_0, ↓x_c, ↓pi_142_0, ↓x_il_1, ↓x_lt0, ↓gi_142_2, ↓x_gt, ↓x_go, ↓c_119, ↓x_ne0, ↓x_ir, ↓c_134, ↓pi_142_18, ↓pi_142_19, ↓pi_142_20, ↓x_is_2, ↓x_il_2, ↓x_ge, ↓gr_142_13, ↓x_inc_2, ↓c_123, ↓x_eq0, ↓c_133, ↓c_128, ↓x_ls_3, ↓x_ll_3, ↓c_141, ↓gi_142_4, ↓c_124, ↓x_eq, ↓x_str, ↓c_129, ↓x_lcw0, ↓x_lcw1, ↓gi_142_18, ↓gi_142_19, ↓gi_142_20, ↓x_ne, ↓c_130, ↓c_139, ↓c_132, ↓gi_142_5, ↓c_143, ↓gi_142_22, ↓c_135, ↓st_148, ↓n_142, ↓s_142_0, ↓s_142_22, ↓s_142_23, ↓s_142_33, ↓s_142_73, ↓s_142_113, ↓s_142_137, ↓s_142_156, ↓s_142_194, ↓s_142_215, ↓s_142_227, ↓bk_v, ↓bk_n, ↓bk_r, ↓pv_i, ↓pv_r, ↓pv_0, ↓pv_l, wz_pk, wz_ti, wz_wz, vI_wz, wz_id, wz_0, List.length_cons, List.length_nil, ↓reduceIte, true_and, and_true, Int.reduceLE, Int.reduceLT, Int.reduceEq, not_true_eq_false, not_false_eq_true, false_or, or_false, true_or, or_true, ite_not, Int.reduceNeg, Int32.reduceToInt, Nat.reduceAdd, Nat.reduceLeDiff, Nat.reduceLT, Nat.reduceEqDiff, Int.reduceAdd, Int.reduceSub, Int.reduceMul, Nat.zero_le, pk_po_ne, pk_po_eq, pk_po_ix, rI, ne_eq, wc, c60, if_false, ↓R129j (j := 25) (by decide) (by decide), ↓R129j (j := 27) (by decide) (by decide), ↓R129j (j := 30) (by decide) (by decide), n1, n3, n6']
      exact z
end R81
