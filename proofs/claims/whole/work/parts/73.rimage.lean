theorem cpC_at {S : St} {b a : Nat} (hb : (a = 78 ∧ (b = 106 ∨ b = 118 ∨ b = 130)) ∨ (b = 78 ∧ (a = 106 ∨ a = 118 ∨ a = 130))) :
    cpC S b a b 0 = S a 0 ∧ cpC S b a b 9 = S a 9 ∧ (∀ j, 0 ≤ j → j < 24 → cpC S b a (b + 1) j = S (a + 1) j) ∧ (∀ j, 0 ≤ j → j < 24 → cpC S b a (b + 2) j = S (a + 2) j) ∧ (∀ j, 0 ≤ j → j < 24 → cpC S b a (b + 3) j = S (a + 3) j) ∧ (∀ j, 0 ≤ j → j < 24 → cpC S b a (b + 4) j = S (a + 4) j) ∧ (∀ j, 0 ≤ j → j < 12 → cpC S b a (b + 5) j = S (a + 5) j) ∧ (∀ j, 0 ≤ j → j < 12 → cpC S b a (b + 6) j = S (a + 6) j) ∧ (∀ j, 0 ≤ j → j < 6 → cpC S b a (b + 7) j = S (a + 7) j) ∧ (∀ j, 0 ≤ j → j < 4 → cpC S b a (b + 8) j = S (a + 8) j) ∧ (∀ j, 0 ≤ j → j < 8 → cpC S b a (b + 9) j = S (a + 9) j) ∧ (∀ j, 0 ≤ j → j < 8 → cpC S b a (b + 10) j = S (a + 10) j) ∧ (∀ j, 0 ≤ j → j < 8 → cpC S b a (b + 11) j = S (a + 11) j) ∧ (∀ e, (e < b ∨ b + 12 ≤ e) → cpC S b a e = S e) := by
  have hf : ∀ e, (e < b ∨ b + 12 ≤ e) → cpC S b a e = S e := by
    intro e he
    funext j
    simp only [cpC, cpR, su]
    repeat rw [if_neg (by omega)]
  refine ⟨?_, ?_, ?_, ?_, ?_, ?_, ?_, ?_, ?_, ?_, ?_, ?_, ?_, hf⟩
  all_goals rcases hb with ⟨rfl, rfl | rfl | rfl⟩ | ⟨rfl, rfl | rfl | rfl⟩
  all_goals first | (simp [cpC, cpR, su]; done) | (intro j h1 h2; simp [cpC, cpR, su, h1, h2])
section R73
variable {Q : MOut → MHp → Prop} {X : Nat × (Nat → Int32)} {s : Bool × Bool} {dh dl t : Nat} {M : Mem} {S : St}
theorem RRi.smq {M' : Mem} {b : Nat} {q : Int} (h6 : RRi S M b q) (h1 : S b 0 ≤ 24) (h2 : S b 9 ≤ 8) (hs : ∀ i, q ≤ i → i < q + 156 → pk M' 174 i = pk M 174 i) : RRi S M' b q := by
  have r : ∀ i, q ≤ i → i < q + 156 → ∀ v, pk M 174 i = v → pk M' 174 i = v := fun i a b v hv => by rw [hs i a b]; exact hv
  obtain ⟨g1, g2, g3, g4, g5, g6, g7, g8, g9, g10, g11, g12, g13⟩ := h6
  exact ⟨r _ (by omega) (by omega) _ g1, fun p a b => r _ (by omega) (by omega) _ (g2 p a b), fun p a b => r _ (by omega) (by omega) _ (g3 p a b), fun p a b => r _ (by omega) (by omega) _ (g4 p a b), fun p a b => r _ (by omega) (by omega) _ (g5 p a b), fun p a b => r _ (by omega) (by omega) _ (g6 p a b), fun p a b => r _ (by omega) (by omega) _ (g7 p a b), fun p a b => r _ (by omega) (by omega) _ (g8 p a b), fun p a b => r _ (by omega) (by omega) _ (g9 p a b), r _ (by omega) (by omega) _ g10, fun p a b => r _ (by omega) (by omega) _ (g11 p a b), fun p a b => r _ (by omega) (by omega) _ (g12 p a b), fun p a b => r _ (by omega) (by omega) _ (g13 p a b)⟩
theorem R195k {n : Nat} (hn : n < 3) (hQ : Q (.inl none) (mkh X s dh dl t (po (po (cpi (cpi (cpi (cpi (cpi (cpi M 174 (156 * n) 161 0 96) 174 (156 * n + 96) 162 0 4) 174 (156 * n + 100) 163 0 12) 174 (156 * n + 112) 164 0 12) 174 (156 * n + 124) 165 0 6) 174 (156 * n + 130) 166 0 24) 174 (156 * n + 154) (pk M 142 49)) 174 (156 * n + 155) (pk M 142 50)))) : CL 195 [.ref 142, vI n, vI 1] (mkh X s dh dl t M) Q := by
  have a1 : ∀ (M : Mem) (Q : MOut → MHp → Prop) (q : Int), 0 ≤ q ∧ q + 96 ≤ 468 → (CL 194 [.ref 142, vI q, .ref 161, vI 96, vI 1] (mkh X s dh dl t M) Q ↔ Q (rI (q + 96)) (mkh X s dh dl t (cpi M 174 q 161 0 96))) := fun M Q q hq => R194k (r := 161) (N := 96) (n := 96) (by rw [swp_out (by decide)]; rfl) (by decide) (by decide) (by decide) (by decide) hq
  have a2 : ∀ (M : Mem) (Q : MOut → MHp → Prop) (q : Int), 0 ≤ q ∧ q + 4 ≤ 468 → (CL 194 [.ref 142, vI q, .ref 162, vI 4, vI 1] (mkh X s dh dl t M) Q ↔ Q (rI (q + 4)) (mkh X s dh dl t (cpi M 174 q 162 0 4))) := fun M Q q hq => R194k (r := 162) (N := 4) (n := 4) (by rw [swp_out (by decide)]; rfl) (by decide) (by decide) (by decide) (by decide) hq
  have a3 : ∀ (M : Mem) (Q : MOut → MHp → Prop) (q : Int), 0 ≤ q ∧ q + 12 ≤ 468 → (CL 194 [.ref 142, vI q, .ref 163, vI 12, vI 1] (mkh X s dh dl t M) Q ↔ Q (rI (q + 12)) (mkh X s dh dl t (cpi M 174 q 163 0 12))) := fun M Q q hq => R194k (r := 163) (N := 12) (n := 12) (by rw [swp_out (by decide)]; rfl) (by decide) (by decide) (by decide) (by decide) hq
  have a4 : ∀ (M : Mem) (Q : MOut → MHp → Prop) (q : Int), 0 ≤ q ∧ q + 12 ≤ 468 → (CL 194 [.ref 142, vI q, .ref 164, vI 12, vI 1] (mkh X s dh dl t M) Q ↔ Q (rI (q + 12)) (mkh X s dh dl t (cpi M 174 q 164 0 12))) := fun M Q q hq => R194k (r := 164) (N := 12) (n := 12) (by rw [swp_out (by decide)]; rfl) (by decide) (by decide) (by decide) (by decide) hq
  have a5 : ∀ (M : Mem) (Q : MOut → MHp → Prop) (q : Int), 0 ≤ q ∧ q + 6 ≤ 468 → (CL 194 [.ref 142, vI q, .ref 165, vI 6, vI 1] (mkh X s dh dl t M) Q ↔ Q (rI (q + 6)) (mkh X s dh dl t (cpi M 174 q 165 0 6))) := fun M Q q hq => R194k (r := 165) (N := 6) (n := 6) (by rw [swp_out (by decide)]; rfl) (by decide) (by decide) (by decide) (by decide) hq
  have a6 : ∀ (M : Mem) (Q : MOut → MHp → Prop) (q : Int), 0 ≤ q ∧ q + 24 ≤ 468 → (CL 194 [.ref 142, vI q, .ref 166, vI 24, vI 1] (mkh X s dh dl t M) Q ↔ Q (rI (q + 24)) (mkh X s dh dl t (cpi M 174 q 166 0 24))) := fun M Q q hq => R194k (r := 166) (N := 24) (n := 24) (by rw [swp_out (by decide)]; rfl) (by decide) (by decide) (by decide) (by decide) hq
  simp (disch := omega) only [↓x_al_0, ↓x_c, ↓x_il_1, ↓x_imul, ↓gr_142_43, ↓x_il_2, ↓c_194, ↓x_is_3, ↓x_il_3, ↓gr_142_44, ↓gr_142_45, ↓gr_142_46, ↓gr_142_47, ↓gr_142_48, ↓x_eq0, ↓gr_142_59, ↓gi_142_49, ↓x_iadd, ↓gi_142_50, ↓x_go, ↓pi_142_49, ↓pi_142_50, ↓x_rt, ↓ld_161, ↓st_161, ↓ld_162, ↓st_162, ↓ld_163, ↓st_163, ↓ld_164, ↓st_164, ↓ld_165, ↓st_165, ↓ld_166, ↓st_166, ↓ld_174, ↓st_174, ↓n_195, ↓s_195_0, ↓s_195_110, ↓s_195_132, ↓bk_v, ↓bk_n, ↓bk_r, ↓pv_i, ↓pv_r, ↓pv_0, ↓pv_l, wz_pk, wz_ti, wz_wz, vI_wz, wz_id, wz_0, List.length_cons, List.length_nil, ↓reduceIte, true_and, and_true, Int.reduceLE, Int.reduceLT, Int.reduceEq, not_true_eq_false, not_false_eq_true, false_or, or_false, true_or, or_true, ite_not, Int.reduceNeg, Int32.reduceToInt, Nat.reduceAdd, Nat.reduceLeDiff, Nat.reduceLT, Nat.reduceEqDiff, Int.reduceAdd, Int.reduceSub, Int.reduceMul, Nat.zero_le, pk_po_ne, pk_po_eq, pk_po_ix, rI, ne_eq]
  rw [a1 _ _ _ (by omega)]
  simp (disch := omega) only [↓x_al_0, ↓x_c, ↓x_il_1, ↓x_imul, ↓gr_142_43, ↓x_il_2, ↓c_194, ↓x_is_3, ↓x_il_3, ↓gr_142_44, ↓gr_142_45, ↓gr_142_46, ↓gr_142_47, ↓gr_142_48, ↓x_eq0, ↓gr_142_59, ↓gi_142_49, ↓x_iadd, ↓gi_142_50, ↓x_go, ↓pi_142_49, ↓pi_142_50, ↓x_rt, ↓ld_161, ↓st_161, ↓ld_162, ↓st_162, ↓ld_163, ↓st_163, ↓ld_164, ↓st_164, ↓ld_165, ↓st_165, ↓ld_166, ↓st_166, ↓ld_174, ↓st_174, ↓n_195, ↓s_195_0, ↓s_195_110, ↓s_195_132, ↓bk_v, ↓bk_n, ↓bk_r, ↓pv_i, ↓pv_r, ↓pv_0, ↓pv_l, wz_pk, wz_ti, wz_wz, vI_wz, wz_id, wz_0, List.length_cons, List.length_nil, ↓reduceIte, true_and, and_true, Int.reduceLE, Int.reduceLT, Int.reduceEq, not_true_eq_false, not_false_eq_true, false_or, or_false, true_or, or_true, ite_not, Int.reduceNeg, Int32.reduceToInt, Nat.reduceAdd, Nat.reduceLeDiff, Nat.reduceLT, Nat.reduceEqDiff, Int.reduceAdd, Int.reduceSub, Int.reduceMul, Nat.zero_le, pk_po_ne, pk_po_eq, pk_po_ix, rI, ne_eq]
  rw [a2 _ _ _ (by omega)]
  simp (disch := omega) only [↓x_al_0, ↓x_c, ↓x_il_1, ↓x_imul, ↓gr_142_43, ↓x_il_2, ↓c_194, ↓x_is_3, ↓x_il_3, ↓gr_142_44, ↓gr_142_45, ↓gr_142_46, ↓gr_142_47, ↓gr_142_48, ↓x_eq0, ↓gr_142_59, ↓gi_142_49, ↓x_iadd, ↓gi_142_50, ↓x_go, ↓pi_142_49, ↓pi_142_50, ↓x_rt, ↓ld_161, ↓st_161, ↓ld_162, ↓st_162, ↓ld_163, ↓st_163, ↓ld_164, ↓st_164, ↓ld_165, ↓st_165, ↓ld_166, ↓st_166, ↓ld_174, ↓st_174, ↓n_195, ↓s_195_0, ↓s_195_110, ↓s_195_132, ↓bk_v, ↓bk_n, ↓bk_r, ↓pv_i, ↓pv_r, ↓pv_0, ↓pv_l, wz_pk, wz_ti, wz_wz, vI_wz, wz_id, wz_0, List.length_cons, List.length_nil, ↓reduceIte, true_and, and_true, Int.reduceLE, Int.reduceLT, Int.reduceEq, not_true_eq_false, not_false_eq_true, false_or, or_false, true_or, or_true, ite_not, Int.reduceNeg, Int32.reduceToInt, Nat.reduceAdd, Nat.reduceLeDiff, Nat.reduceLT, Nat.reduceEqDiff, Int.reduceAdd, Int.reduceSub, Int.reduceMul, Nat.zero_le, pk_po_ne, pk_po_eq, pk_po_ix, rI, ne_eq]
  rw [a3 _ _ _ (by omega)]
  simp (disch := omega) only [↓x_al_0, ↓x_c, ↓x_il_1, ↓x_imul, ↓gr_142_43, ↓x_il_2, ↓c_194, ↓x_is_3, ↓x_il_3, ↓gr_142_44, ↓gr_142_45, ↓gr_142_46, ↓gr_142_47, ↓gr_142_48, ↓x_eq0, ↓gr_142_59, ↓gi_142_49, ↓x_iadd, ↓gi_142_50, ↓x_go, ↓pi_142_49, ↓pi_142_50, ↓x_rt, ↓ld_161, ↓st_161, ↓ld_162, ↓st_162, ↓ld_163, ↓st_163, ↓ld_164, ↓st_164, ↓ld_165, ↓st_165, ↓ld_166, ↓st_166, ↓ld_174, ↓st_174, ↓n_195, ↓s_195_0, ↓s_195_110, ↓s_195_132, ↓bk_v, ↓bk_n, ↓bk_r, ↓pv_i, ↓pv_r, ↓pv_0, ↓pv_l, wz_pk, wz_ti, wz_wz, vI_wz, wz_id, wz_0, List.length_cons, List.length_nil, ↓reduceIte, true_and, and_true, Int.reduceLE, Int.reduceLT, Int.reduceEq, not_true_eq_false, not_false_eq_true, false_or, or_false, true_or, or_true, ite_not, Int.reduceNeg, Int32.reduceToInt, Nat.reduceAdd, Nat.reduceLeDiff, Nat.reduceLT, Nat.reduceEqDiff, Int.reduceAdd, Int.reduceSub, Int.reduceMul, Nat.zero_le, pk_po_ne, pk_po_eq, pk_po_ix, rI, ne_eq]
  rw [a4 _ _ _ (by omega)]
  simp (disch := omega) only [↓x_al_0, ↓x_c, ↓x_il_1, ↓x_imul, ↓gr_142_43, ↓x_il_2, ↓c_194, ↓x_is_3, ↓x_il_3, ↓gr_142_44, ↓gr_142_45, ↓gr_142_46, ↓gr_142_47, ↓gr_142_48, ↓x_eq0, ↓gr_142_59, ↓gi_142_49, ↓x_iadd, ↓gi_142_50, ↓x_go, ↓pi_142_49, ↓pi_142_50, ↓x_rt, ↓ld_161, ↓st_161, ↓ld_162, ↓st_162, ↓ld_163, ↓st_163, ↓ld_164, ↓st_164, ↓ld_165, ↓st_165, ↓ld_166, ↓st_166, ↓ld_174, ↓st_174, ↓n_195, ↓s_195_0, ↓s_195_110, ↓s_195_132, ↓bk_v, ↓bk_n, ↓bk_r, ↓pv_i, ↓pv_r, ↓pv_0, ↓pv_l, wz_pk, wz_ti, wz_wz, vI_wz, wz_id, wz_0, List.length_cons, List.length_nil, ↓reduceIte, true_and, and_true, Int.reduceLE, Int.reduceLT, Int.reduceEq, not_true_eq_false, not_false_eq_true, false_or, or_false, true_or, or_true, ite_not, Int.reduceNeg, Int32.reduceToInt, Nat.reduceAdd, Nat.reduceLeDiff, Nat.reduceLT, Nat.reduceEqDiff, Int.reduceAdd, Int.reduceSub, Int.reduceMul, Nat.zero_le, pk_po_ne, pk_po_eq, pk_po_ix, rI, ne_eq]
  rw [a5 _ _ _ (by omega)]
  simp (disch := omega) only [↓x_al_0, ↓x_c, ↓x_il_1, ↓x_imul, ↓gr_142_43, ↓x_il_2, ↓c_194, ↓x_is_3, ↓x_il_3, ↓gr_142_44, ↓gr_142_45, ↓gr_142_46, ↓gr_142_47, ↓gr_142_48, ↓x_eq0, ↓gr_142_59, ↓gi_142_49, ↓x_iadd, ↓gi_142_50, ↓x_go, ↓pi_142_49, ↓pi_142_50, ↓x_rt, ↓ld_161, ↓st_161, ↓ld_162, ↓st_162, ↓ld_163, ↓st_163, ↓ld_164, ↓st_164, ↓ld_165, ↓st_165, ↓ld_166, ↓st_166, ↓ld_174, ↓st_174, ↓n_195, ↓s_195_0, ↓s_195_110, ↓s_195_132, ↓bk_v, ↓bk_n, ↓bk_r, ↓pv_i, ↓pv_r, ↓pv_0, ↓pv_l, wz_pk, wz_ti, wz_wz, vI_wz, wz_id, wz_0, List.length_cons, List.length_nil, ↓reduceIte, true_and, and_true, Int.reduceLE, Int.reduceLT, Int.reduceEq, not_true_eq_false, not_false_eq_true, false_or, or_false, true_or, or_true, ite_not, Int.reduceNeg, Int32.reduceToInt, Nat.reduceAdd, Nat.reduceLeDiff, Nat.reduceLT, Nat.reduceEqDiff, Int.reduceAdd, Int.reduceSub, Int.reduceMul, Nat.zero_le, pk_po_ne, pk_po_eq, pk_po_ix, rI, ne_eq]
  rw [a6 _ _ _ (by omega)]
  have f : ∀ i, pk (cpi (cpi (cpi (cpi (cpi (cpi M 174 (156 * n) 161 0 96) 174 (156 * n + 96) 162 0 4) 174 (156 * n + 100) 163 0 12) 174 (156 * n + 112) 164 0 12) 174 (156 * n + 124) 165 0 6) 174 (156 * n + 130) 166 0 24) 142 i = pk M 142 i := fun i => by
    rw [pk_cpi, if_neg (by omega), pk_cpi, if_neg (by omega), pk_cpi, if_neg (by omega), pk_cpi, if_neg (by omega), pk_cpi, if_neg (by omega), pk_cpi, if_neg (by omega)]
  rw [show 156 * (n : Int) + 96 + 4 = 156 * n + 100 by omega, show 156 * (n : Int) + 100 + 12 = 156 * n + 112 by omega, show 156 * (n : Int) + 112 + 12 = 156 * n + 124 by omega, show 156 * (n : Int) + 124 + 6 = 156 * n + 130 by omega, show 156 * (n : Int) + 130 + 24 = 156 * n + 154 by omega]
  have b1 : 156 * (n : Int) + 154 < 468 := by omega
  have b2 : 0 ≤ 156 * (n : Int) + 154 := by omega
  have b3 : 156 * (n : Int) + 154 + 1 < 468 := by omega
  have b4 : 0 ≤ 156 * (n : Int) + 154 + 1 := by omega
  simp (disch := omega) only [↓x_al_0, ↓x_c, ↓x_il_1, ↓x_imul, ↓gr_142_43, ↓x_il_2, ↓c_194, ↓x_is_3, ↓x_il_3, ↓gr_142_44, ↓gr_142_45, ↓gr_142_46, ↓gr_142_47, ↓gr_142_48, ↓x_eq0, ↓gr_142_59, ↓gi_142_49, ↓x_iadd, ↓gi_142_50, ↓x_go, ↓pi_142_49, ↓pi_142_50, ↓x_rt, ↓ld_161, ↓st_161, ↓ld_162, ↓st_162, ↓ld_163, ↓st_163, ↓ld_164, ↓st_164, ↓ld_165, ↓st_165, ↓ld_166, ↓st_166, ↓ld_174, ↓st_174, ↓n_195, ↓s_195_0, ↓s_195_110, ↓s_195_132, ↓bk_v, ↓bk_n, ↓bk_r, ↓pv_i, ↓pv_r, ↓pv_0, ↓pv_l, wz_pk, wz_ti, wz_wz, vI_wz, wz_id, wz_0, List.length_cons, List.length_nil, ↓reduceIte, true_and, and_true, Int.reduceLE, Int.reduceLT, Int.reduceEq, not_true_eq_false, not_false_eq_true, false_or, or_false, true_or, or_true, ite_not, Int.reduceNeg, Int32.reduceToInt, Nat.reduceAdd, Nat.reduceLeDiff, Nat.reduceLT, Nat.reduceEqDiff, Int.reduceAdd, Int.reduceSub, Int.reduceMul, Nat.zero_le, pk_po_ne, pk_po_eq, pk_po_ix, rI, ne_eq, f, b1, b2, b3, b4]
  rw [show 156 * (n : Int) + 154 + 1 = 156 * n + 155 by omega]
  exact hQ
theorem R195r {n : Nat} (hn : n < 3) (hQ : Q (.inl none) (mkh X s dh dl t (po (po (cpi (cpi (cpi (cpi (cpi (cpi M 161 0 174 (156 * n) 96) 162 0 174 (156 * n + 96) 4) 163 0 174 (156 * n + 100) 12) 164 0 174 (156 * n + 112) 12) 165 0 174 (156 * n + 124) 6) 166 0 174 (156 * n + 130) 24) 142 49 (pk M 174 (156 * n + 154))) 142 50 (pk M 174 (156 * n + 155))))) : CL 195 [.ref 142, vI n, vI 0] (mkh X s dh dl t M) Q := by
  have a1 : ∀ (M : Mem) (Q : MOut → MHp → Prop) (q : Int), 0 ≤ q ∧ q + 96 ≤ 468 → (CL 194 [.ref 142, vI q, .ref 161, vI 96, vI 0] (mkh X s dh dl t M) Q ↔ Q (rI (q + 96)) (mkh X s dh dl t (cpi M 161 0 174 q 96))) := fun M Q q hq => R194r (r := 161) (N := 96) (n := 96) (by rw [swp_out (by decide)]; rfl) (by decide) (by decide) (by decide) (by decide) hq
  have a2 : ∀ (M : Mem) (Q : MOut → MHp → Prop) (q : Int), 0 ≤ q ∧ q + 4 ≤ 468 → (CL 194 [.ref 142, vI q, .ref 162, vI 4, vI 0] (mkh X s dh dl t M) Q ↔ Q (rI (q + 4)) (mkh X s dh dl t (cpi M 162 0 174 q 4))) := fun M Q q hq => R194r (r := 162) (N := 4) (n := 4) (by rw [swp_out (by decide)]; rfl) (by decide) (by decide) (by decide) (by decide) hq
  have a3 : ∀ (M : Mem) (Q : MOut → MHp → Prop) (q : Int), 0 ≤ q ∧ q + 12 ≤ 468 → (CL 194 [.ref 142, vI q, .ref 163, vI 12, vI 0] (mkh X s dh dl t M) Q ↔ Q (rI (q + 12)) (mkh X s dh dl t (cpi M 163 0 174 q 12))) := fun M Q q hq => R194r (r := 163) (N := 12) (n := 12) (by rw [swp_out (by decide)]; rfl) (by decide) (by decide) (by decide) (by decide) hq
  have a4 : ∀ (M : Mem) (Q : MOut → MHp → Prop) (q : Int), 0 ≤ q ∧ q + 12 ≤ 468 → (CL 194 [.ref 142, vI q, .ref 164, vI 12, vI 0] (mkh X s dh dl t M) Q ↔ Q (rI (q + 12)) (mkh X s dh dl t (cpi M 164 0 174 q 12))) := fun M Q q hq => R194r (r := 164) (N := 12) (n := 12) (by rw [swp_out (by decide)]; rfl) (by decide) (by decide) (by decide) (by decide) hq
  have a5 : ∀ (M : Mem) (Q : MOut → MHp → Prop) (q : Int), 0 ≤ q ∧ q + 6 ≤ 468 → (CL 194 [.ref 142, vI q, .ref 165, vI 6, vI 0] (mkh X s dh dl t M) Q ↔ Q (rI (q + 6)) (mkh X s dh dl t (cpi M 165 0 174 q 6))) := fun M Q q hq => R194r (r := 165) (N := 6) (n := 6) (by rw [swp_out (by decide)]; rfl) (by decide) (by decide) (by decide) (by decide) hq
  have a6 : ∀ (M : Mem) (Q : MOut → MHp → Prop) (q : Int), 0 ≤ q ∧ q + 24 ≤ 468 → (CL 194 [.ref 142, vI q, .ref 166, vI 24, vI 0] (mkh X s dh dl t M) Q ↔ Q (rI (q + 24)) (mkh X s dh dl t (cpi M 166 0 174 q 24))) := fun M Q q hq => R194r (r := 166) (N := 24) (n := 24) (by rw [swp_out (by decide)]; rfl) (by decide) (by decide) (by decide) (by decide) hq
  simp (disch := omega) only [↓x_al_0, ↓x_c, ↓x_il_1, ↓x_imul, ↓gr_142_43, ↓x_il_2, ↓c_194, ↓x_is_3, ↓x_il_3, ↓gr_142_44, ↓gr_142_45, ↓gr_142_46, ↓gr_142_47, ↓gr_142_48, ↓x_eq0, ↓gr_142_59, ↓gi_142_49, ↓x_iadd, ↓gi_142_50, ↓x_go, ↓pi_142_49, ↓pi_142_50, ↓x_rt, ↓ld_161, ↓st_161, ↓ld_162, ↓st_162, ↓ld_163, ↓st_163, ↓ld_164, ↓st_164, ↓ld_165, ↓st_165, ↓ld_166, ↓st_166, ↓ld_174, ↓st_174, ↓n_195, ↓s_195_0, ↓s_195_110, ↓s_195_132, ↓bk_v, ↓bk_n, ↓bk_r, ↓pv_i, ↓pv_r, ↓pv_0, ↓pv_l, wz_pk, wz_ti, wz_wz, vI_wz, wz_id, wz_0, List.length_cons, List.length_nil, ↓reduceIte, true_and, and_true, Int.reduceLE, Int.reduceLT, Int.reduceEq, not_true_eq_false, not_false_eq_true, false_or, or_false, true_or, or_true, ite_not, Int.reduceNeg, Int32.reduceToInt, Nat.reduceAdd, Nat.reduceLeDiff, Nat.reduceLT, Nat.reduceEqDiff, Int.reduceAdd, Int.reduceSub, Int.reduceMul, Nat.zero_le, pk_po_ne, pk_po_eq, pk_po_ix, rI, ne_eq]
  rw [a1 _ _ _ (by omega)]
  simp (disch := omega) only [↓x_al_0, ↓x_c, ↓x_il_1, ↓x_imul, ↓gr_142_43, ↓x_il_2, ↓c_194, ↓x_is_3, ↓x_il_3, ↓gr_142_44, ↓gr_142_45, ↓gr_142_46, ↓gr_142_47, ↓gr_142_48, ↓x_eq0, ↓gr_142_59, ↓gi_142_49, ↓x_iadd, ↓gi_142_50, ↓x_go, ↓pi_142_49, ↓pi_142_50, ↓x_rt, ↓ld_161, ↓st_161, ↓ld_162, ↓st_162, ↓ld_163, ↓st_163, ↓ld_164, ↓st_164, ↓ld_165, ↓st_165, ↓ld_166, ↓st_166, ↓ld_174, ↓st_174, ↓n_195, ↓s_195_0, ↓s_195_110, ↓s_195_132, ↓bk_v, ↓bk_n, ↓bk_r, ↓pv_i, ↓pv_r, ↓pv_0, ↓pv_l, wz_pk, wz_ti, wz_wz, vI_wz, wz_id, wz_0, List.length_cons, List.length_nil, ↓reduceIte, true_and, and_true, Int.reduceLE, Int.reduceLT, Int.reduceEq, not_true_eq_false, not_false_eq_true, false_or, or_false, true_or, or_true, ite_not, Int.reduceNeg, Int32.reduceToInt, Nat.reduceAdd, Nat.reduceLeDiff, Nat.reduceLT, Nat.reduceEqDiff, Int.reduceAdd, Int.reduceSub, Int.reduceMul, Nat.zero_le, pk_po_ne, pk_po_eq, pk_po_ix, rI, ne_eq]
  rw [a2 _ _ _ (by omega)]
  simp (disch := omega) only [↓x_al_0, ↓x_c, ↓x_il_1, ↓x_imul, ↓gr_142_43, ↓x_il_2, ↓c_194, ↓x_is_3, ↓x_il_3, ↓gr_142_44, ↓gr_142_45, ↓gr_142_46, ↓gr_142_47, ↓gr_142_48, ↓x_eq0, ↓gr_142_59, ↓gi_142_49, ↓x_iadd, ↓gi_142_50, ↓x_go, ↓pi_142_49, ↓pi_142_50, ↓x_rt, ↓ld_161, ↓st_161, ↓ld_162, ↓st_162, ↓ld_163, ↓st_163, ↓ld_164, ↓st_164, ↓ld_165, ↓st_165, ↓ld_166, ↓st_166, ↓ld_174, ↓st_174, ↓n_195, ↓s_195_0, ↓s_195_110, ↓s_195_132, ↓bk_v, ↓bk_n, ↓bk_r, ↓pv_i, ↓pv_r, ↓pv_0, ↓pv_l, wz_pk, wz_ti, wz_wz, vI_wz, wz_id, wz_0, List.length_cons, List.length_nil, ↓reduceIte, true_and, and_true, Int.reduceLE, Int.reduceLT, Int.reduceEq, not_true_eq_false, not_false_eq_true, false_or, or_false, true_or, or_true, ite_not, Int.reduceNeg, Int32.reduceToInt, Nat.reduceAdd, Nat.reduceLeDiff, Nat.reduceLT, Nat.reduceEqDiff, Int.reduceAdd, Int.reduceSub, Int.reduceMul, Nat.zero_le, pk_po_ne, pk_po_eq, pk_po_ix, rI, ne_eq]
  rw [a3 _ _ _ (by omega)]
  simp (disch := omega) only [↓x_al_0, ↓x_c, ↓x_il_1, ↓x_imul, ↓gr_142_43, ↓x_il_2, ↓c_194, ↓x_is_3, ↓x_il_3, ↓gr_142_44, ↓gr_142_45, ↓gr_142_46, ↓gr_142_47, ↓gr_142_48, ↓x_eq0, ↓gr_142_59, ↓gi_142_49, ↓x_iadd, ↓gi_142_50, ↓x_go, ↓pi_142_49, ↓pi_142_50, ↓x_rt, ↓ld_161, ↓st_161, ↓ld_162, ↓st_162, ↓ld_163, ↓st_163, ↓ld_164, ↓st_164, ↓ld_165, ↓st_165, ↓ld_166, ↓st_166, ↓ld_174, ↓st_174, ↓n_195, ↓s_195_0, ↓s_195_110, ↓s_195_132, ↓bk_v, ↓bk_n, ↓bk_r, ↓pv_i, ↓pv_r, ↓pv_0, ↓pv_l, wz_pk, wz_ti, wz_wz, vI_wz, wz_id, wz_0, List.length_cons, List.length_nil, ↓reduceIte, true_and, and_true, Int.reduceLE, Int.reduceLT, Int.reduceEq, not_true_eq_false, not_false_eq_true, false_or, or_false, true_or, or_true, ite_not, Int.reduceNeg, Int32.reduceToInt, Nat.reduceAdd, Nat.reduceLeDiff, Nat.reduceLT, Nat.reduceEqDiff, Int.reduceAdd, Int.reduceSub, Int.reduceMul, Nat.zero_le, pk_po_ne, pk_po_eq, pk_po_ix, rI, ne_eq]
  rw [a4 _ _ _ (by omega)]
  simp (disch := omega) only [↓x_al_0, ↓x_c, ↓x_il_1, ↓x_imul, ↓gr_142_43, ↓x_il_2, ↓c_194, ↓x_is_3, ↓x_il_3, ↓gr_142_44, ↓gr_142_45, ↓gr_142_46, ↓gr_142_47, ↓gr_142_48, ↓x_eq0, ↓gr_142_59, ↓gi_142_49, ↓x_iadd, ↓gi_142_50, ↓x_go, ↓pi_142_49, ↓pi_142_50, ↓x_rt, ↓ld_161, ↓st_161, ↓ld_162, ↓st_162, ↓ld_163, ↓st_163, ↓ld_164, ↓st_164, ↓ld_165, ↓st_165, ↓ld_166, ↓st_166, ↓ld_174, ↓st_174, ↓n_195, ↓s_195_0, ↓s_195_110, ↓s_195_132, ↓bk_v, ↓bk_n, ↓bk_r, ↓pv_i, ↓pv_r, ↓pv_0, ↓pv_l, wz_pk, wz_ti, wz_wz, vI_wz, wz_id, wz_0, List.length_cons, List.length_nil, ↓reduceIte, true_and, and_true, Int.reduceLE, Int.reduceLT, Int.reduceEq, not_true_eq_false, not_false_eq_true, false_or, or_false, true_or, or_true, ite_not, Int.reduceNeg, Int32.reduceToInt, Nat.reduceAdd, Nat.reduceLeDiff, Nat.reduceLT, Nat.reduceEqDiff, Int.reduceAdd, Int.reduceSub, Int.reduceMul, Nat.zero_le, pk_po_ne, pk_po_eq, pk_po_ix, rI, ne_eq]
  rw [a5 _ _ _ (by omega)]
  simp (disch := omega) only [↓x_al_0, ↓x_c, ↓x_il_1, ↓x_imul, ↓gr_142_43, ↓x_il_2, ↓c_194, ↓x_is_3, ↓x_il_3, ↓gr_142_44, ↓gr_142_45, ↓gr_142_46, ↓gr_142_47, ↓gr_142_48, ↓x_eq0, ↓gr_142_59, ↓gi_142_49, ↓x_iadd, ↓gi_142_50, ↓x_go, ↓pi_142_49, ↓pi_142_50, ↓x_rt, ↓ld_161, ↓st_161, ↓ld_162, ↓st_162, ↓ld_163, ↓st_163, ↓ld_164, ↓st_164, ↓ld_165, ↓st_165, ↓ld_166, ↓st_166, ↓ld_174, ↓st_174, ↓n_195, ↓s_195_0, ↓s_195_110, ↓s_195_132, ↓bk_v, ↓bk_n, ↓bk_r, ↓pv_i, ↓pv_r, ↓pv_0, ↓pv_l, wz_pk, wz_ti, wz_wz, vI_wz, wz_id, wz_0, List.length_cons, List.length_nil, ↓reduceIte, true_and, and_true, Int.reduceLE, Int.reduceLT, Int.reduceEq, not_true_eq_false, not_false_eq_true, false_or, or_false, true_or, or_true, ite_not, Int.reduceNeg, Int32.reduceToInt, Nat.reduceAdd, Nat.reduceLeDiff, Nat.reduceLT, Nat.reduceEqDiff, Int.reduceAdd, Int.reduceSub, Int.reduceMul, Nat.zero_le, pk_po_ne, pk_po_eq, pk_po_ix, rI, ne_eq]
  rw [a6 _ _ _ (by omega)]
  have f : ∀ i, pk (cpi (cpi (cpi (cpi (cpi (cpi M 161 0 174 (156 * n) 96) 162 0 174 (156 * n + 96) 4) 163 0 174 (156 * n + 100) 12) 164 0 174 (156 * n + 112) 12) 165 0 174 (156 * n + 124) 6) 166 0 174 (156 * n + 130) 24) 174 i = pk M 174 i := fun i => by
    rw [pk_cpi, if_neg (by omega), pk_cpi, if_neg (by omega), pk_cpi, if_neg (by omega), pk_cpi, if_neg (by omega), pk_cpi, if_neg (by omega), pk_cpi, if_neg (by omega)]
  rw [show 156 * (n : Int) + 96 + 4 = 156 * n + 100 by omega, show 156 * (n : Int) + 100 + 12 = 156 * n + 112 by omega, show 156 * (n : Int) + 112 + 12 = 156 * n + 124 by omega, show 156 * (n : Int) + 124 + 6 = 156 * n + 130 by omega, show 156 * (n : Int) + 130 + 24 = 156 * n + 154 by omega]
  have b1 : 156 * (n : Int) + 154 < 468 := by omega
  have b2 : 0 ≤ 156 * (n : Int) + 154 := by omega
  have b3 : 156 * (n : Int) + 154 + 1 < 468 := by omega
  have b4 : 0 ≤ 156 * (n : Int) + 154 + 1 := by omega
  simp (disch := omega) only [↓x_al_0, ↓x_c, ↓x_il_1, ↓x_imul, ↓gr_142_43, ↓x_il_2, ↓c_194, ↓x_is_3, ↓x_il_3, ↓gr_142_44, ↓gr_142_45, ↓gr_142_46, ↓gr_142_47, ↓gr_142_48, ↓x_eq0, ↓gr_142_59, ↓gi_142_49, ↓x_iadd, ↓gi_142_50, ↓x_go, ↓pi_142_49, ↓pi_142_50, ↓x_rt, ↓ld_161, ↓st_161, ↓ld_162, ↓st_162, ↓ld_163, ↓st_163, ↓ld_164, ↓st_164, ↓ld_165, ↓st_165, ↓ld_166, ↓st_166, ↓ld_174, ↓st_174, ↓n_195, ↓s_195_0, ↓s_195_110, ↓s_195_132, ↓bk_v, ↓bk_n, ↓bk_r, ↓pv_i, ↓pv_r, ↓pv_0, ↓pv_l, wz_pk, wz_ti, wz_wz, vI_wz, wz_id, wz_0, List.length_cons, List.length_nil, ↓reduceIte, true_and, and_true, Int.reduceLE, Int.reduceLT, Int.reduceEq, not_true_eq_false, not_false_eq_true, false_or, or_false, true_or, or_true, ite_not, Int.reduceNeg, Int32.reduceToInt, Nat.reduceAdd, Nat.reduceLeDiff, Nat.reduceLT, Nat.reduceEqDiff, Int.reduceAdd, Int.reduceSub, Int.reduceMul, Nat.zero_le, pk_po_ne, pk_po_eq, pk_po_ix, rI, ne_eq, f, b1, b2, b3, b4]
  rw [show 156 * (n : Int) + 154 + 1 = 156 * n + 155 by omega]
  exact hQ
theorem R196 (hR : RR S M) (hI : crs S 78) (hn : 0 ≤ S 0 11 ∧ S 0 11 ≤ 3) (hJ : ∀ j : Nat, (j : Int) < S 0 11 → crs S (106 + 12 * j)) (hP : PR X s dh dl t M Q cA (o_image S)) : CL 196 [.ref 142] (mkh X s dh dl t M) Q := by
  have g0 := hR.imgs
  have hR0 := hR.pw (a := 142) (i := 0) (x := 0) rfl
  have hF0 : FR M (po M 142 0 0) := FR.rfl.pw (by decide)
  have n1 := c78_acts hI
  have n2 := c78_proms hI
  by_cases h : 3 ≤ S 0 11
  · have e := hP.ok (by rw [o_image, if_pos h]) hR0 hF0 th0
    have h3 : S 0 11 = 3 := by omega
    simp (disch := omega) only [↓x_al_0, ↓x_c, ↓pi_142_0, ↓gi_142_60, ↓x_ne, ↓x_ir, ↓c_195, ↓x_dup_i, ↓x_dup_r, ↓x_iadd, ↓pi_142_60, ↓n_196, ↓s_196_0, ↓s_196_15, ↓bk_v, ↓bk_n, ↓bk_r, ↓pv_i, ↓pv_r, ↓pv_0, ↓pv_l, wz_pk, wz_ti, wz_wz, vI_wz, wz_id, wz_0, List.length_cons, List.length_nil, ↓reduceIte, true_and, and_true, Int.reduceLE, Int.reduceLT, Int.reduceEq, not_true_eq_false, not_false_eq_true, false_or, or_false, true_or, or_true, ite_not, Int.reduceNeg, Int32.reduceToInt, Nat.reduceAdd, Nat.reduceLeDiff, Nat.reduceLT, Nat.reduceEqDiff, Int.reduceAdd, Int.reduceSub, Int.reduceMul, Nat.zero_le, pk_po_ne, pk_po_eq, pk_po_ix, rI, ne_eq, g0, h3, if_true]
    exact e
  · have h3 : ¬ S 0 11 = 3 := by omega
    obtain ⟨n, hN⟩ : ∃ n : Nat, n = (S 0 11).toNat := ⟨_, rfl⟩
    have eN : S 0 11 = n := by omega
    have hn3 : n < 3 := by omega
    have g1 : pk M 142 60 = n := by rw [g0, eN]
    rw [eN] at h3
    simp (disch := omega) only [↓x_al_0, ↓x_c, ↓pi_142_0, ↓gi_142_60, ↓x_ne, ↓x_ir, ↓c_195, ↓x_dup_i, ↓x_dup_r, ↓x_iadd, ↓pi_142_60, ↓n_196, ↓s_196_0, ↓s_196_15, ↓bk_v, ↓bk_n, ↓bk_r, ↓pv_i, ↓pv_r, ↓pv_0, ↓pv_l, wz_pk, wz_ti, wz_wz, vI_wz, wz_id, wz_0, List.length_cons, List.length_nil, ↓reduceIte, true_and, and_true, Int.reduceLE, Int.reduceLT, Int.reduceEq, not_true_eq_false, not_false_eq_true, false_or, or_false, true_or, or_true, ite_not, Int.reduceNeg, Int32.reduceToInt, Nat.reduceAdd, Nat.reduceLeDiff, Nat.reduceLT, Nat.reduceEqDiff, Int.reduceAdd, Int.reduceSub, Int.reduceMul, Nat.zero_le, pk_po_ne, pk_po_eq, pk_po_ix, rI, ne_eq, g1, h3, if_false]
    refine R195k hn3 ?_
    obtain ⟨M6, hM6⟩ : ∃ M6, M6 = po (po (cpi (cpi (cpi (cpi (cpi (cpi (po M 142 0 0) 174 (156 * n) 161 0 96) 174 (156 * n + 96) 162 0 4) 174 (156 * n + 100) 163 0 12) 174 (156 * n + 112) 164 0 12) 174 (156 * n + 124) 165 0 6) 174 (156 * n + 130) 166 0 24) 174 (156 * n + 154) (pk (po M 142 0 0) 142 49)) 174 (156 * n + 155) (pk (po M 142 0 0) 142 50) := ⟨_, rfl⟩
    have fo : ∀ e, e ≠ 174 → M6 e = (po M 142 0 0) e := fun e he => by
      funext j
      rw [hM6]
      simp only [po, cpi, he, false_and, if_false]
    have fp : ∀ e i, e ≠ 174 → pk M6 e i = pk (po M 142 0 0) e i := fun e i he => by unfold pk; rw [fo e he]
    have f4 : ∀ i, pk M6 174 i = if i = 156 * n + 155 then S 78 9 else if i = 156 * n + 154 then S 78 0 else if 156 * n + 130 ≤ i ∧ i < 156 * n + 154 then pk M 166 (i - (156 * n + 130)) else if 156 * n + 124 ≤ i ∧ i < 156 * n + 130 then pk M 165 (i - (156 * n + 124)) else if 156 * n + 112 ≤ i ∧ i < 156 * n + 124 then pk M 164 (i - (156 * n + 112)) else if 156 * n + 100 ≤ i ∧ i < 156 * n + 112 then pk M 163 (i - (156 * n + 100)) else if 156 * n + 96 ≤ i ∧ i < 156 * n + 100 then pk M 162 (i - (156 * n + 96)) else if 156 * n ≤ i ∧ i < 156 * n + 96 then pk M 161 (i - 156 * n) else pk M 174 i := fun i => by
      rw [hM6]
      have k1 := hR0.c.acts
      have k2 := hR0.c.proms
      rw [k1, k2]
      have w1 := wz_of k1
      have w2 := wz_of k2
      clear hM6 fo fp hP hR hR0
      simp only [pk_po, pk_cpi, Int.add_zero]
      simp (disch := omega) only [if_neg, w1, w2, true_and, Nat.reduceEqDiff, false_and, if_false]
      grind
    rw [← hM6]
    have hT := cpC_at (S := S) (b := 106 + 12 * n) (a := 78) (Or.inl ⟨rfl, by omega⟩)
    obtain ⟨t0, t9, t1, t2, t3, t4, t5, t6, t7, t8, t10, t11, t12, to⟩ := hT
    have hw : wz ((n : Int) + 1) = (n : Int) + 1 := wz_id (by omega) (by omega)
    have hR6 : RR (su (cpC S (106 + 12 * n) 78) 0 11 ((n : Int) + 1)) (po M6 142 60 ((n : Int) + 1)) := by
      have e0 : ∀ a, ¬ a = 0 → su (cpC S (106 + 12 * n) 78) 0 11 ((n : Int) + 1) a = cpC S (106 + 12 * n) 78 a := fun a ha => by
        funext j
        unfold su
        rw [if_neg (fun h => ha h.1)]
      have e1 : ∀ a, ¬ a = 0 → (a < 106 + 12 * n ∨ 106 + 12 * n + 12 ≤ a) → su (cpC S (106 + 12 * n) 78) 0 11 ((n : Int) + 1) a = S a := fun a ha h2 => by rw [e0 a ha, to a h2]
      have e2 : ∀ i, ¬ i = 11 → su (cpC S (106 + 12 * n) 78) 0 11 ((n : Int) + 1) 0 i = S 0 i := fun i hi => by
        unfold su
        rw [if_neg (fun h => hi h.2), to 0 (by omega)]
      have fq : ∀ e i, e ≠ 174 → ¬ (e = 142 ∧ i = 60) → pk (po M6 142 60 ((n : Int) + 1)) e i = pk (po M 142 0 0) e i := fun e i h1 h2 => by rw [pk_po, if_neg h2, fp e i h1]
      have fq4 : ∀ i, pk (po M6 142 60 ((n : Int) + 1)) 174 i = pk M6 174 i := fun i => pk_po_ne (by decide)
      obtain ⟨q1, q2, q3, q4, q5, q6, q7, q8, q9⟩ := hR0
      refine ⟨?_, ?_, ?_, (q4.sm (fun k i h => fq k i ?_ ?_)).st (fun k h1 h2 => e1 k (by omega) (by omega)), (q5.sm (fun k i h => fq k i ?_ ?_)).st (fun k h1 h2 => e1 k (by omega) (by omega)), ?_, ?_, ?_, fun j hj => ?_⟩
      · rw [e2 1 (by decide), fq _ _ (by decide) (by decide)]; exact q1
      · intro i h1 h2
        rw [e2 1 (by decide)] at h2
        rw [e1 1 (by decide) (by omega), fq _ _ (by decide) (by omega)]; exact q2 i h1 h2
      · rw [e1 2 (by decide) (by omega), fq _ _ (by decide) (by decide)]; exact q3
      · rintro rfl; cases h
      · rintro ⟨rfl, rfl⟩; cases h
      · rintro rfl; cases h
      · rintro ⟨rfl, rfl⟩; cases h
      · have q10 := q6.sm (M' := po M6 142 60 ((n : Int) + 1)) (fun k i h => fq k i (by rintro rfl; cases h) (by rintro ⟨rfl, rfl⟩; cases h))
        unfold RRc at q10 ⊢
        simp only [e1 78 (by decide) (by omega), e1 79 (by decide) (by omega), e1 80 (by decide) (by omega), e1 81 (by decide) (by omega), e1 82 (by decide) (by omega), e1 83 (by decide) (by omega), e1 84 (by decide) (by omega), e1 85 (by decide) (by omega), e1 86 (by decide) (by omega), e1 87 (by decide) (by omega), e1 88 (by decide) (by omega), e1 89 (by decide) (by omega)]
        exact q10
      · intro k h1 h2
        rw [e1 105 (by decide) (by omega), fq _ _ (by decide) (by omega)]; exact q7 k h1 h2
      · rw [pk_po_eq, hw]; simp [su]
      · have hj' : (j : Int) < (n : Int) + 1 := by simpa [su] using hj
        by_cases hjn : j = n
        · subst hjn
          obtain ⟨r1, r2, r3, r4, r5, r6, r7, r8, r9, r10, r11, r12, r13⟩ := hR.c
          unfold RRi
          simp only [fq4, e0 (106 + 12 * j) (by omega), e0 (106 + 12 * j + 1) (by omega), e0 (106 + 12 * j + 2) (by omega), e0 (106 + 12 * j + 3) (by omega), e0 (106 + 12 * j + 4) (by omega), e0 (106 + 12 * j + 5) (by omega), e0 (106 + 12 * j + 6) (by omega), e0 (106 + 12 * j + 7) (by omega), e0 (106 + 12 * j + 8) (by omega), e0 (106 + 12 * j + 9) (by omega), e0 (106 + 12 * j + 10) (by omega), e0 (106 + 12 * j + 11) (by omega), t0, t9]
          refine ⟨?_, ?_, ?_, ?_, ?_, ?_, ?_, ?_, ?_, ?_, ?_, ?_, ?_⟩
          · rw [f4, if_neg (by omega), if_pos (by omega)]
          · intro i h1 h2
            rw [t1 i h1 (by omega), ← r2 i h1 h2, f4, if_neg (by omega), if_neg (by omega), if_neg (by omega), if_neg (by omega), if_neg (by omega), if_neg (by omega), if_neg (by omega), if_pos (by omega)]
            congr 1; omega
          · intro i h1 h2
            rw [t2 i h1 (by omega), ← r3 i h1 h2, f4, if_neg (by omega), if_neg (by omega), if_neg (by omega), if_neg (by omega), if_neg (by omega), if_neg (by omega), if_neg (by omega), if_pos (by omega)]
            congr 1; omega
          · intro i h1 h2
            rw [t3 i h1 (by omega), ← r4 i h1 h2, f4, if_neg (by omega), if_neg (by omega), if_neg (by omega), if_neg (by omega), if_neg (by omega), if_neg (by omega), if_neg (by omega), if_pos (by omega)]
            congr 1; omega
          · intro i h1 h2
            rw [t4 i h1 (by omega), ← r5 i h1 h2, f4, if_neg (by omega), if_neg (by omega), if_neg (by omega), if_neg (by omega), if_neg (by omega), if_neg (by omega), if_neg (by omega), if_pos (by omega)]
            congr 1; omega
          · intro i h1 h2
            rw [t8 i h1 (by omega), ← r6 i h1 h2, f4, if_neg (by omega), if_neg (by omega), if_neg (by omega), if_neg (by omega), if_neg (by omega), if_neg (by omega), if_pos (by omega)]
            congr 1; omega
          · intro i h1 h2
            rw [t5 i h1 (by omega), ← r7 i h1 h2, f4, if_neg (by omega), if_neg (by omega), if_neg (by omega), if_neg (by omega), if_neg (by omega), if_pos (by omega)]
            congr 1; omega
          · intro i h1 h2
            rw [t6 i h1 (by omega), ← r8 i h1 h2, f4, if_neg (by omega), if_neg (by omega), if_neg (by omega), if_neg (by omega), if_pos (by omega)]
            congr 1; omega
          · intro i h1 h2
            rw [t7 i h1 (by omega), ← r9 i h1 h2, f4, if_neg (by omega), if_neg (by omega), if_neg (by omega), if_pos (by omega)]
            congr 1; omega
          · rw [f4, if_pos rfl]
          · intro i h1 h2
            rw [t10 i h1 (by omega), ← r11 i h1 h2, f4, if_neg (by omega), if_neg (by omega), if_pos (by omega)]
            congr 1; omega
          · intro i h1 h2
            rw [t11 i h1 (by omega), ← r12 i h1 h2, f4, if_neg (by omega), if_neg (by omega), if_pos (by omega)]
            congr 1; omega
          · intro i h1 h2
            rw [t12 i h1 (by omega), ← r13 i h1 h2, f4, if_neg (by omega), if_neg (by omega), if_pos (by omega)]
            congr 1; omega
        · have hjl : j < n := by omega
          have b0 := hR.img j (by omega)
          have cj := hJ j (by omega)
          have f5 : ∀ i : Int, i < 156 * (n : Int) → pk (po M6 142 60 ((n : Int) + 1)) 174 i = pk M 174 i := fun i hi => by
            rw [fq4, f4, if_neg (by omega), if_neg (by omega), if_neg (by omega), if_neg (by omega), if_neg (by omega), if_neg (by omega), if_neg (by omega), if_neg (by omega)]
          exact (b0.smq cj.acts.2 cj.proms.2 (fun i h1 h2 => f5 i (by omega))).st (fun k hk => e1 _ (by omega) (by omega))
    have e := hP.ok (M' := po M6 142 60 ((n : Int) + 1)) (by rw [o_image, if_neg h, ← hN, eN]) hR6 ((fun a ha => by
      funext j
      rw [po_ne (by omega), fo a (by omega), hF0 a ha])) (by rw [pk_po_ix (by decide), fp _ _ (by decide)]; exact th0)
    have g2 : pk M6 142 60 = n := by rw [fp _ _ (by decide), pk_po_ix (by decide)]; exact g1
    simp (disch := omega) only [↓x_al_0, ↓x_c, ↓pi_142_0, ↓gi_142_60, ↓x_ne, ↓x_ir, ↓c_195, ↓x_dup_i, ↓x_dup_r, ↓x_iadd, ↓pi_142_60, ↓n_196, ↓s_196_0, ↓s_196_15, ↓bk_v, ↓bk_n, ↓bk_r, ↓pv_i, ↓pv_r, ↓pv_0, ↓pv_l, wz_pk, wz_ti, wz_wz, vI_wz, wz_id, wz_0, List.length_cons, List.length_nil, ↓reduceIte, true_and, and_true, Int.reduceLE, Int.reduceLT, Int.reduceEq, not_true_eq_false, not_false_eq_true, false_or, or_false, true_or, or_true, ite_not, Int.reduceNeg, Int32.reduceToInt, Nat.reduceAdd, Nat.reduceLeDiff, Nat.reduceLT, Nat.reduceEqDiff, Int.reduceAdd, Int.reduceSub, Int.reduceMul, Nat.zero_le, pk_po_ne, pk_po_eq, pk_po_ix, rI, ne_eq, g2]
    exact e
theorem R197 (hR : RR S M) (hn : 0 ≤ S 0 11 ∧ S 0 11 ≤ 3) (hJ : ∀ j : Nat, (j : Int) < S 0 11 → crs S (106 + 12 * j)) (hP : PR X s dh dl t M Q cA (o_restore S)) : CL 197 [.ref 142] (mkh X s dh dl t M) Q := by
  have g0 := hR.imgs
  have hR0 := hR.pw (a := 142) (i := 0) (x := 0) rfl
  have hF0 : FR M (po M 142 0 0) := FR.rfl.pw (by decide)
  by_cases h : S 0 11 ≤ 0
  · have e := hP.ok (by rw [o_restore, if_pos h]) hR0 hF0 th0
    have h3 : S 0 11 = 0 := by omega
    simp (disch := omega) only [↓x_al_0, ↓x_c, ↓pi_142_0, ↓gi_142_60, ↓x_ne0, ↓x_ir, ↓x_dup_i, ↓x_dup_r, ↓x_isub, ↓pi_142_60, ↓c_195, ↓n_197, ↓s_197_0, ↓s_197_14, ↓bk_v, ↓bk_n, ↓bk_r, ↓pv_i, ↓pv_r, ↓pv_0, ↓pv_l, wz_pk, wz_ti, wz_wz, vI_wz, wz_id, wz_0, List.length_cons, List.length_nil, ↓reduceIte, true_and, and_true, Int.reduceLE, Int.reduceLT, Int.reduceEq, not_true_eq_false, not_false_eq_true, false_or, or_false, true_or, or_true, ite_not, Int.reduceNeg, Int32.reduceToInt, Nat.reduceAdd, Nat.reduceLeDiff, Nat.reduceLT, Nat.reduceEqDiff, Int.reduceAdd, Int.reduceSub, Int.reduceMul, Nat.zero_le, pk_po_ne, pk_po_eq, pk_po_ix, rI, ne_eq, g0, h3, if_true]
    exact e
  · have h3 : ¬ S 0 11 = 0 := by omega
    obtain ⟨n, hN⟩ : ∃ n : Nat, n = (S 0 11 - 1).toNat := ⟨_, rfl⟩
    have eN : S 0 11 - 1 = n := by omega
    have hn3 : n < 3 := by omega
    have hw : wz (n : Int) = n := wz_id (by omega) (by omega)
    simp (disch := omega) only [↓x_al_0, ↓x_c, ↓pi_142_0, ↓gi_142_60, ↓x_ne0, ↓x_ir, ↓x_dup_i, ↓x_dup_r, ↓x_isub, ↓pi_142_60, ↓c_195, ↓n_197, ↓s_197_0, ↓s_197_14, ↓bk_v, ↓bk_n, ↓bk_r, ↓pv_i, ↓pv_r, ↓pv_0, ↓pv_l, wz_pk, wz_ti, wz_wz, vI_wz, wz_id, wz_0, List.length_cons, List.length_nil, ↓reduceIte, true_and, and_true, Int.reduceLE, Int.reduceLT, Int.reduceEq, not_true_eq_false, not_false_eq_true, false_or, or_false, true_or, or_true, ite_not, Int.reduceNeg, Int32.reduceToInt, Nat.reduceAdd, Nat.reduceLeDiff, Nat.reduceLT, Nat.reduceEqDiff, Int.reduceAdd, Int.reduceSub, Int.reduceMul, Nat.zero_le, pk_po_ne, pk_po_eq, pk_po_ix, rI, ne_eq, g0, h3, if_false]
    rw [eN]
    refine R195r hn3 ?_
    have cI := hJ n (by omega)
    have ac := cI.acts
    have pr := cI.proms
    have rI0 := hR.img n (by omega)
    obtain ⟨r1, r2, r3, r4, r5, r6, r7, r8, r9, r10, r11, r12, r13⟩ := rI0
    obtain ⟨M0, hM0⟩ : ∃ M0, M0 = po (po M 142 0 0) 142 60 (n : Int) := ⟨_, rfl⟩
    have m4 : ∀ i, pk M0 174 i = pk M 174 i := fun i => by rw [hM0, pk_po_ne (by decide), pk_po_ne (by decide)]
    rw [← hM0]
    obtain ⟨M6, hM6⟩ : ∃ M6, M6 = po (po (cpi (cpi (cpi (cpi (cpi (cpi M0 161 0 174 (156 * n) 96) 162 0 174 (156 * n + 96) 4) 163 0 174 (156 * n + 100) 12) 164 0 174 (156 * n + 112) 12) 165 0 174 (156 * n + 124) 6) 166 0 174 (156 * n + 130) 24) 142 49 (pk M0 174 (156 * n + 154))) 142 50 (pk M0 174 (156 * n + 155)) := ⟨_, rfl⟩
    rw [← hM6]
    have fp : ∀ e i, rstC e i = false → pk M6 e i = pk M0 e i := fun e i he => by
      rw [hM6]
      simp only [rstC, Bool.or_eq_false_iff, Bool.and_eq_false_iff, decide_eq_false_iff_not] at he
      rw [pk_po, if_neg (by omega), pk_po, if_neg (by omega), pk_cpi, if_neg (by omega), pk_cpi, if_neg (by omega), pk_cpi, if_neg (by omega), pk_cpi, if_neg (by omega), pk_cpi, if_neg (by omega), pk_cpi, if_neg (by omega)]
    have z1 : pk M6 142 49 = S (106 + 12 * n) 0 := by
      rw [hM6, pk_po_ix (by decide), pk_po_eq, m4, r1]
      exact wz_of r1
    have z2 : pk M6 142 50 = S (106 + 12 * n) 9 := by
      rw [hM6, pk_po_eq, m4, r10]
      exact wz_of r10
    have y1 : ∀ i, 0 ≤ i → i < 96 → pk M6 161 i = pk M 174 (156 * n + i) := fun i h1 h2 => by
      rw [hM6, pk_po_ne (by decide), pk_po_ne (by decide), pk_cpi, if_neg (by omega), pk_cpi, if_neg (by omega), pk_cpi, if_neg (by omega), pk_cpi, if_neg (by omega), pk_cpi, if_neg (by omega), pk_cpi, if_pos (by omega), m4]
      congr 1; omega
    have y2 : ∀ i, 0 ≤ i → i < 4 → pk M6 162 i = pk M 174 (156 * n + 96 + i) := fun i h1 h2 => by
      rw [hM6, pk_po_ne (by decide), pk_po_ne (by decide), pk_cpi, if_neg (by omega), pk_cpi, if_neg (by omega), pk_cpi, if_neg (by omega), pk_cpi, if_neg (by omega), pk_cpi, if_pos (by omega), pk_cpi, if_neg (by omega), m4]
      congr 1; omega
    have y3 : ∀ i, 0 ≤ i → i < 12 → pk M6 163 i = pk M 174 (156 * n + 100 + i) := fun i h1 h2 => by
      rw [hM6, pk_po_ne (by decide), pk_po_ne (by decide), pk_cpi, if_neg (by omega), pk_cpi, if_neg (by omega), pk_cpi, if_neg (by omega), pk_cpi, if_pos (by omega), pk_cpi, if_neg (by omega), pk_cpi, if_neg (by omega), m4]
      congr 1; omega
    have y4 : ∀ i, 0 ≤ i → i < 12 → pk M6 164 i = pk M 174 (156 * n + 112 + i) := fun i h1 h2 => by
      rw [hM6, pk_po_ne (by decide), pk_po_ne (by decide), pk_cpi, if_neg (by omega), pk_cpi, if_neg (by omega), pk_cpi, if_pos (by omega), pk_cpi, if_neg (by omega), pk_cpi, if_neg (by omega), pk_cpi, if_neg (by omega), m4]
      congr 1; omega
    have y5 : ∀ i, 0 ≤ i → i < 6 → pk M6 165 i = pk M 174 (156 * n + 124 + i) := fun i h1 h2 => by
      rw [hM6, pk_po_ne (by decide), pk_po_ne (by decide), pk_cpi, if_neg (by omega), pk_cpi, if_pos (by omega), pk_cpi, if_neg (by omega), pk_cpi, if_neg (by omega), pk_cpi, if_neg (by omega), pk_cpi, if_neg (by omega), m4]
      congr 1; omega
    have y6 : ∀ i, 0 ≤ i → i < 24 → pk M6 166 i = pk M 174 (156 * n + 130 + i) := fun i h1 h2 => by
      rw [hM6, pk_po_ne (by decide), pk_po_ne (by decide), pk_cpi, if_pos (by omega), pk_cpi, if_neg (by omega), pk_cpi, if_neg (by omega), pk_cpi, if_neg (by omega), pk_cpi, if_neg (by omega), pk_cpi, if_neg (by omega), m4]
      congr 1; omega
    have hT := cpC_at (S := su S 0 11 (n : Int)) (b := 78) (a := 106 + 12 * n) (Or.inr ⟨rfl, by omega⟩)
    have es : ∀ a, ¬ a = 0 → su S 0 11 (n : Int) a = S a := fun a ha => by
      funext j
      unfold su
      rw [if_neg (fun h => ha h.1)]
    have e0 : ∀ i, ¬ i = 11 → su S 0 11 (n : Int) 0 i = S 0 i := fun i hi => by
      unfold su
      rw [if_neg (fun h => hi h.2)]
    simp only [es (106 + 12 * n) (by omega), es (106 + 12 * n + 1) (by omega), es (106 + 12 * n + 2) (by omega), es (106 + 12 * n + 3) (by omega), es (106 + 12 * n + 4) (by omega), es (106 + 12 * n + 5) (by omega), es (106 + 12 * n + 6) (by omega), es (106 + 12 * n + 7) (by omega), es (106 + 12 * n + 8) (by omega), es (106 + 12 * n + 9) (by omega), es (106 + 12 * n + 10) (by omega), es (106 + 12 * n + 11) (by omega)] at hT
    obtain ⟨t0, t9, t1, t2, t3, t4, t5, t6, t7, t8, t10, t11, t12, to⟩ := hT
    have hR6 : RR (cpC (su S 0 11 (n : Int)) 78 (106 + 12 * n)) M6 := by
      have e1 : ∀ a, ¬ a = 0 → (a < 78 ∨ 90 ≤ a) → cpC (su S 0 11 (n : Int)) 78 (106 + 12 * n) a = S a := fun a ha h2 => by rw [to a (by omega), es a ha]
      have e2 : ∀ i, ¬ i = 11 → cpC (su S 0 11 (n : Int)) 78 (106 + 12 * n) 0 i = S 0 i := fun i hi => by rw [to 0 (by omega), e0 i hi]
      have fq : ∀ e i, rstC e i = false → ¬ (e = 142 ∧ i = 60) → pk M6 e i = pk (po M 142 0 0) e i := fun e i h1 h2 => by rw [fp e i h1, hM0, pk_po, if_neg h2]
      obtain ⟨q1, q2, q3, q4, q5, q6, q7, q8, q9⟩ := hR0
      refine ⟨?_, ?_, ?_, (q4.sm (fun k i h => fq k i ?_ ?_)).st (fun k h1 h2 => e1 k (by omega) (by omega)), (q5.sm (fun k i h => fq k i ?_ ?_)).st (fun k h1 h2 => e1 k (by omega) (by omega)), ?_, ?_, ?_, fun j hj => ?_⟩
      · rw [e2 1 (by decide), fq _ _ rfl (by decide)]; exact q1
      · intro i h1 h2
        rw [e2 1 (by decide)] at h2
        rw [e1 1 (by decide) (by omega), fq _ _ rfl (by omega)]; exact q2 i h1 h2
      · rw [e1 2 (by decide) (by omega), fq _ _ rfl (by decide)]; exact q3
      · simp only [rstH, rstC, Bool.or_eq_true, Bool.and_eq_true, decide_eq_true_eq, Bool.or_eq_false_iff, Bool.and_eq_false_iff, decide_eq_false_iff_not] at *
        omega
      · rintro ⟨rfl, rfl⟩; cases h
      · simp only [rstL, rstC, Bool.or_eq_true, Bool.and_eq_true, decide_eq_true_eq, Bool.or_eq_false_iff, Bool.and_eq_false_iff, decide_eq_false_iff_not] at *
        omega
      · rintro ⟨rfl, rfl⟩; cases h
      · unfold RRc
        simp only [t0, t9]
        refine ⟨z1, ?_, ?_, ?_, ?_, ?_, ?_, ?_, ?_, z2, ?_, ?_, ?_⟩
        · intro i h1 h2
          rw [y1 _ (by omega) (by omega), t1 i h1 (by omega)]; exact r2 i h1 h2
        · intro i h1 h2
          rw [y1 _ (by omega) (by omega), t2 i h1 (by omega)]; exact r3 i h1 h2
        · intro i h1 h2
          rw [y1 _ (by omega) (by omega), t3 i h1 (by omega)]; exact r4 i h1 h2
        · intro i h1 h2
          rw [y1 _ (by omega) (by omega), t4 i h1 (by omega)]; exact r5 i h1 h2
        · intro i h1 h2
          rw [y2 _ (by omega) (by omega), t8 i h1 (by omega)]; exact r6 i h1 h2
        · intro i h1 h2
          rw [y3 _ (by omega) (by omega), t5 i h1 (by omega)]; exact r7 i h1 h2
        · intro i h1 h2
          rw [y4 _ (by omega) (by omega), t6 i h1 (by omega)]; exact r8 i h1 h2
        · intro i h1 h2
          rw [y5 _ (by omega) (by omega), t7 i h1 (by omega)]; exact r9 i h1 h2
        · intro i h1 h2
          rw [y6 _ (by omega) (by omega), t10 i h1 (by omega)]; exact r11 i h1 h2
        · intro i h1 h2
          rw [y6 _ (by omega) (by omega), t11 i h1 (by omega)]; exact r12 i h1 h2
        · intro i h1 h2
          rw [y6 _ (by omega) (by omega), t12 i h1 (by omega)]; exact r13 i h1 h2
      · intro k h1 h2
        rw [e1 105 (by decide) (by omega), fq _ _ rfl (by omega)]; exact q7 k h1 h2
      · rw [fp _ _ rfl, hM0, pk_po_eq, hw, to 0 (by omega)]; simp [su]
      · have hj' : (j : Int) < (n : Int) := by rw [to 0 (by omega)] at hj; simpa [su] using hj
        exact ((hR.img j (by omega)).sm (fun i => by rw [fp _ _ rfl, m4])).st (fun k hk => e1 _ (by omega) (by omega))
    have e := hP.ok (M' := M6) (by rw [o_restore, if_neg h, eN]; rfl) hR6 (fun a ha => by
      funext j
      rw [hM6, hM0]
      simp only [po, cpi]
      have c1 : ¬ a = 142 := by omega
      have c2 : ¬ a = 161 := by omega
      have c3 : ¬ a = 162 := by omega
      have c4 : ¬ a = 163 := by omega
      have c5 : ¬ a = 164 := by omega
      have c6 : ¬ a = 165 := by omega
      have c7 : ¬ a = 166 := by omega
      simp only [c1, c2, c3, c4, c5, c6, c7, false_and, if_false]) (by rw [fp _ _ rfl, hM0, pk_po_ix (by decide)]; exact th0)
    have g2 : pk M6 142 60 = n := by rw [fp _ _ rfl, hM0, pk_po_eq]; exact hw
    simp (disch := omega) only [↓x_al_0, ↓x_c, ↓pi_142_0, ↓gi_142_60, ↓x_ne0, ↓x_ir, ↓x_dup_i, ↓x_dup_r, ↓x_isub, ↓pi_142_60, ↓c_195, ↓n_197, ↓s_197_0, ↓s_197_14, ↓bk_v, ↓bk_n, ↓bk_r, ↓pv_i, ↓pv_r, ↓pv_0, ↓pv_l, wz_pk, wz_ti, wz_wz, vI_wz, wz_id, wz_0, List.length_cons, List.length_nil, ↓reduceIte, true_and, and_true, Int.reduceLE, Int.reduceLT, Int.reduceEq, not_true_eq_false, not_false_eq_true, false_or, or_false, true_or, or_true, ite_not, Int.reduceNeg, Int32.reduceToInt, Nat.reduceAdd, Nat.reduceLeDiff, Nat.reduceLT, Nat.reduceEqDiff, Int.reduceAdd, Int.reduceSub, Int.reduceMul, Nat.zero_le, pk_po_ne, pk_po_eq, pk_po_ix, rI, ne_eq, g2]
    exact e
end R73
