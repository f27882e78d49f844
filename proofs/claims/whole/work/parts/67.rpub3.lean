theorem rk_aside {S : St} {p d : Int} (h : ¬ S 85 d = 0) : ∀ n, (rk S p n).2.1 d = 0 := by
  intro n
  induction n with
  | zero => rfl
  | succ n ih =>
    simp only [rk]
    split
    · exact ih
    · simp only [payG]
      rw [if_neg (by unfold inr; simp [h])]
      exact ih
theorem ior_0 {x : Int} : ior x 0 = wz x := by
  unfold ior wz
  rw [show Int32.ofInt 0 = 0 from rfl, Int32.or_zero]
theorem wrongN_wz {S : St} : ∀ n, wz (wrongN S n) = wrongN S n := by
  intro n
  induction n with
  | zero => exact wz_0
  | succ n ih =>
    simp only [wrongN]
    split
    · exact ih
    · unfold ior; exact wz_ti
section R67
variable {Q : MOut → MHp → Prop} {X : Nat × (Nat → Int32)} {s : Bool × Bool} {dh dl t : Nat} {M : Mem} {S : St}
theorem R164 (hR : RR S M) (hH : hou S) (hL : wfl S) (hI : crs S 78) (hP : PR X s dh dl t M Q cA (o_wrong S)) : CL 164 [.ref 142] (mkh X s dh dl t M) Q := by
  have n1 := c78_acts hI
  have hR0 := hR.pw (a := 142) (i := 0) (x := 0) rfl
  have hF0 : FR M (po M 142 0 0) := FR.rfl.pw (by decide)
  have key : ∀ M1, SF (po M 142 0 0) M1 → EX 164 (sx 164 9) [.ref 142, vI (wrongN S (0 : Nat)), vI ((0 : Nat) : Int)] [] (mkh X s dh dl t M1) Q := by
    refine lp (n := (S 78 0).toNat) (fun n => ∀ M1, SF (po M 142 0 0) M1 → EX 164 (sx 164 9) [.ref 142, vI (wrongN S n), vI n] [] (mkh X s dh dl t M1) Q) ?_ ?_
    · intro M1 s1
      have g0 := (hR0.sf s1).c.acts
      have e := hP.ok (M' := M1) (by rw [o_wrong]) (hR0.sf s1) (hF0.trans s1.1) (by rw [s1.th]; exact th0)
      have e1 : S 78 0 ≤ (S 78 0).toNat := by omega
      rw [s_164_9]
      simp (disch := omega) only [↓x_al_0, ↓x_c, ↓pi_142_0, ↓x_is_1, ↓x_is_2, ↓x_il_2, ↓gi_142_49, ↓x_ge, ↓x_il_1, ↓gr_142_43, ↓x_imul, ↓x_iadd, ↓c_155, ↓x_eq, ↓x_ishl, ↓x_go, ↓x_ior, ↓x_inc_2, ↓x_ir, ↓ld_161, ↓n_164, ↓s_164_0, ↓s_164_71, ↓s_164_72, ↓s_164_80, ↓bk_v, ↓bk_n, ↓bk_r, ↓pv_i, ↓pv_r, ↓pv_0, ↓pv_l, wz_pk, wz_ti, wz_wz, vI_wz, wz_id, wz_0, List.length_cons, List.length_nil, ↓reduceIte, true_and, and_true, Int.reduceLE, Int.reduceLT, Int.reduceEq, not_true_eq_false, not_false_eq_true, false_or, or_false, true_or, or_true, ite_not, Int.reduceNeg, Int32.reduceToInt, Nat.reduceAdd, Nat.reduceLeDiff, Nat.reduceLT, Nat.reduceEqDiff, Int.reduceAdd, Int.reduceSub, Int.reduceMul, Nat.zero_le, pk_po_ne, pk_po_eq, pk_po_ix, rI, ne_eq, g0, wz_of g0, e1, if_true]
      exact e
    · intro n hn ih M1 s1
      have hR1 := hR0.sf s1
      have g0 := hR1.c.acts
      have e1 : ¬ S 78 0 ≤ n := by omega
      have v1 := hR1.c.ad n (by omega) (by omega)
      have v2 := hR1.c.ag n (by omega) (by omega)
      have v3 := hR1.c.am n (by omega) (by omega)
      have v4 := hR1.c.ao n (by omega) (by omega)
      have u1 := c78_ad hI n (by omega) (by omega)
      have u2 := c78_ag hI n (by omega) (by omega)
      have u3 := c78_am hI n (by omega) (by omega)
      have u4 := c78_ao hI n (by omega) (by omega)
      have b1 : 4 * (n : Int) + 1 < 96 := by omega
      have b2 : 0 ≤ 4 * (n : Int) + 1 := by omega
      have b3 : 4 * (n : Int) < 96 := by omega
      have b4 : 0 ≤ 4 * (n : Int) := by omega
      have b5 : 4 * (n : Int) + 2 < 96 := by omega
      have b6 : 0 ≤ 4 * (n : Int) + 2 := by omega
      have b7 : 4 * (n : Int) + 3 < 96 := by omega
      have b8 : 0 ≤ 4 * (n : Int) + 3 := by omega
      rw [s_164_9]
      simp (disch := omega) only [↓x_al_0, ↓x_c, ↓pi_142_0, ↓x_is_1, ↓x_is_2, ↓x_il_2, ↓gi_142_49, ↓x_ge, ↓x_il_1, ↓gr_142_43, ↓x_imul, ↓x_iadd, ↓c_155, ↓x_eq, ↓x_ishl, ↓x_go, ↓x_ior, ↓x_inc_2, ↓x_ir, ↓ld_161, ↓n_164, ↓s_164_0, ↓s_164_71, ↓s_164_72, ↓s_164_80, ↓bk_v, ↓bk_n, ↓bk_r, ↓pv_i, ↓pv_r, ↓pv_0, ↓pv_l, wz_pk, wz_ti, wz_wz, vI_wz, wz_id, wz_0, List.length_cons, List.length_nil, ↓reduceIte, true_and, and_true, Int.reduceLE, Int.reduceLT, Int.reduceEq, not_true_eq_false, not_false_eq_true, false_or, or_false, true_or, or_true, ite_not, Int.reduceNeg, Int32.reduceToInt, Nat.reduceAdd, Nat.reduceLeDiff, Nat.reduceLT, Nat.reduceEqDiff, Int.reduceAdd, Int.reduceSub, Int.reduceMul, Nat.zero_le, pk_po_ne, pk_po_eq, pk_po_ix, rI, ne_eq, g0, wz_of g0, e1, if_false, v1, v2, v3, v4, b1, b2, b3, b4, b5, b6, b7, b8]
      refine R155 hR1 hH hL hI u1 u2 u3 u4 (Or.inr ⟨rfl, rfl⟩) ?_
      intro M2 s2
      replace s2 := s1.trans s2
      have hb := barOf_rng (f := fct S (S 79 n) (S 80 n) (S 81 n) (S 82 n) 9999) hL
      have eb : wz (barOf S (fct S (S 79 n) (S 80 n) (S 81 n) (S 82 n) 9999)) = barOf S (fct S (S 79 n) (S 80 n) (S 81 n) (S 82 n) 9999) := wz_id (by omega) (by omega)
      have ih2 := ih M2 s2
      simp only [wrongN] at ih2
      have e2 : (↑(n + 1) : Int) = (n : Int) + 1 := by omega
      rw [e2] at ih2
      by_cases hl : barOf S (fct S (S 79 n) (S 80 n) (S 81 n) (S 82 n) 9999) = -1
      · rw [if_pos (show lateBar S (S 79 n) (S 80 n) (S 81 n) (S 82 n) = -1 from hl)] at ih2
        simp (disch := omega) only [↓x_al_0, ↓x_c, ↓pi_142_0, ↓x_is_1, ↓x_is_2, ↓x_il_2, ↓gi_142_49, ↓x_ge, ↓x_il_1, ↓gr_142_43, ↓x_imul, ↓x_iadd, ↓c_155, ↓x_eq, ↓x_ishl, ↓x_go, ↓x_ior, ↓x_inc_2, ↓x_ir, ↓ld_161, ↓n_164, ↓s_164_0, ↓s_164_71, ↓s_164_72, ↓s_164_80, ↓bk_v, ↓bk_n, ↓bk_r, ↓pv_i, ↓pv_r, ↓pv_0, ↓pv_l, wz_pk, wz_ti, wz_wz, vI_wz, wz_id, wz_0, List.length_cons, List.length_nil, ↓reduceIte, true_and, and_true, Int.reduceLE, Int.reduceLT, Int.reduceEq, not_true_eq_false, not_false_eq_true, false_or, or_false, true_or, or_true, ite_not, Int.reduceNeg, Int32.reduceToInt, Nat.reduceAdd, Nat.reduceLeDiff, Nat.reduceLT, Nat.reduceEqDiff, Int.reduceAdd, Int.reduceSub, Int.reduceMul, Nat.zero_le, pk_po_ne, pk_po_eq, pk_po_ix, rI, ne_eq, eb, hl, if_true, ior_0, wrongN_wz]
        exact ih2
      · rw [if_neg (show ¬ lateBar S (S 79 n) (S 80 n) (S 81 n) (S 82 n) = -1 from hl)] at ih2
        simp (disch := omega) only [↓x_al_0, ↓x_c, ↓pi_142_0, ↓x_is_1, ↓x_is_2, ↓x_il_2, ↓gi_142_49, ↓x_ge, ↓x_il_1, ↓gr_142_43, ↓x_imul, ↓x_iadd, ↓c_155, ↓x_eq, ↓x_ishl, ↓x_go, ↓x_ior, ↓x_inc_2, ↓x_ir, ↓ld_161, ↓n_164, ↓s_164_0, ↓s_164_71, ↓s_164_72, ↓s_164_80, ↓bk_v, ↓bk_n, ↓bk_r, ↓pv_i, ↓pv_r, ↓pv_0, ↓pv_l, wz_pk, wz_ti, wz_wz, vI_wz, wz_id, wz_0, List.length_cons, List.length_nil, ↓reduceIte, true_and, and_true, Int.reduceLE, Int.reduceLT, Int.reduceEq, not_true_eq_false, not_false_eq_true, false_or, or_false, true_or, or_true, ite_not, Int.reduceNeg, Int32.reduceToInt, Nat.reduceAdd, Nat.reduceLeDiff, Nat.reduceLT, Nat.reduceEqDiff, Int.reduceAdd, Int.reduceSub, Int.reduceMul, Nat.zero_le, pk_po_ne, pk_po_eq, pk_po_ix, rI, ne_eq, eb, hl, if_false]
        exact ih2
  have key := key (po M 142 0 0) SF.rfl
  simp only [↓x_al_0, ↓x_c, ↓pi_142_0, ↓x_is_1, ↓x_is_2, ↓x_il_2, ↓gi_142_49, ↓x_ge, ↓x_il_1, ↓gr_142_43, ↓x_imul, ↓x_iadd, ↓c_155, ↓x_eq, ↓x_ishl, ↓x_go, ↓x_ior, ↓x_inc_2, ↓x_ir, ↓ld_161, ↓n_164, ↓s_164_0, ↓s_164_71, ↓s_164_72, ↓s_164_80, ↓bk_v, ↓bk_n, ↓bk_r, ↓pv_i, ↓pv_r, ↓pv_0, ↓pv_l, wz_pk, wz_ti, wz_wz, vI_wz, wz_id, wz_0, List.length_cons, List.length_nil, ↓reduceIte, true_and, and_true, Int.reduceLE, Int.reduceLT, Int.reduceEq, not_true_eq_false, not_false_eq_true, false_or, or_false, true_or, or_true, ite_not, Int.reduceNeg, Int32.reduceToInt, Nat.reduceAdd, Nat.reduceLeDiff, Nat.reduceLT, Nat.reduceEqDiff, Int.reduceAdd, Int.reduceSub, Int.reduceMul, Nat.zero_le, pk_po_ne, pk_po_eq, pk_po_ix, rI, ne_eq]
  exact key
theorem R181 {d : Int} (hR : RR S M) (hH : hou S) (hI : crs S 78) (hd : 0 ≤ d ∧ d < S 3 2) (hQ : ∀ M', SF M M' → Q (rI (got S d)) (mkh X s dh dl t M')) : CL 181 [.ref 142, vI d] (mkh X s dh dl t M) Q := by
  have n1 := hH.nd
  have h4 := hH.dbt d hd.1 hd.2
  have v1 := hR.h.dbt d hd.1 hd.2
  have v2 := hR.c.aside d hd.1 (by omega)
  have u2 := c78_aside hI d hd.1 (by omega)
  have b1 : 3 * d < 18 := by omega
  have b2 : 0 ≤ 3 * d := by omega
  have b3 : d < 6 := by omega
  have b4 : 0 ≤ d := by omega
  by_cases c : S 85 d = 1
  · have e := hQ M SF.rfl
    rw [show got S d = 0 by unfold got ranks; exact rk_aside (by omega) _] at e
    simp (disch := omega) only [↓x_al_0, ↓gr_142_47, ↓x_il_1, ↓x_c, ↓x_ne, ↓x_ir, ↓gr_142_16, ↓x_imul, ↓c_174, ↓gr_142_51, ↓ld_151, ↓ld_165, ↓ld_167, ↓n_181, ↓s_181_0, ↓s_181_12, ↓bk_v, ↓bk_n, ↓bk_r, ↓pv_i, ↓pv_r, ↓pv_0, ↓pv_l, wz_pk, wz_ti, wz_wz, vI_wz, wz_id, wz_0, List.length_cons, List.length_nil, ↓reduceIte, true_and, and_true, Int.reduceLE, Int.reduceLT, Int.reduceEq, not_true_eq_false, not_false_eq_true, false_or, or_false, true_or, or_true, ite_not, Int.reduceNeg, Int32.reduceToInt, Nat.reduceAdd, Nat.reduceLeDiff, Nat.reduceLT, Nat.reduceEqDiff, Int.reduceAdd, Int.reduceSub, Int.reduceMul, Nat.zero_le, pk_po_ne, pk_po_eq, pk_po_ix, rI, ne_eq, v2, b3, b4, c, if_true]
    exact e
  · simp (disch := omega) only [↓x_al_0, ↓gr_142_47, ↓x_il_1, ↓x_c, ↓x_ne, ↓x_ir, ↓gr_142_16, ↓x_imul, ↓c_174, ↓gr_142_51, ↓ld_151, ↓ld_165, ↓ld_167, ↓n_181, ↓s_181_0, ↓s_181_12, ↓bk_v, ↓bk_n, ↓bk_r, ↓pv_i, ↓pv_r, ↓pv_0, ↓pv_l, wz_pk, wz_ti, wz_wz, vI_wz, wz_id, wz_0, List.length_cons, List.length_nil, ↓reduceIte, true_and, and_true, Int.reduceLE, Int.reduceLT, Int.reduceEq, not_true_eq_false, not_false_eq_true, false_or, or_false, true_or, or_true, ite_not, Int.reduceNeg, Int32.reduceToInt, Nat.reduceAdd, Nat.reduceLeDiff, Nat.reduceLT, Nat.reduceEqDiff, Int.reduceAdd, Int.reduceSub, Int.reduceMul, Nat.zero_le, pk_po_ne, pk_po_eq, pk_po_ix, rI, ne_eq, v1, v2, b1, b2, b3, b4, wz_of v2, c, if_false]
    refine R174 hR hH hI h4 ?_
    intro M1 s1 a1 a2
    have a3 := a2 d hd.1 hd.2
    have e := hQ M1 s1
    simp (disch := omega) only [↓x_al_0, ↓gr_142_47, ↓x_il_1, ↓x_c, ↓x_ne, ↓x_ir, ↓gr_142_16, ↓x_imul, ↓c_174, ↓gr_142_51, ↓ld_151, ↓ld_165, ↓ld_167, ↓n_181, ↓s_181_0, ↓s_181_12, ↓bk_v, ↓bk_n, ↓bk_r, ↓pv_i, ↓pv_r, ↓pv_0, ↓pv_l, wz_pk, wz_ti, wz_wz, vI_wz, wz_id, wz_0, List.length_cons, List.length_nil, ↓reduceIte, true_and, and_true, Int.reduceLE, Int.reduceLT, Int.reduceEq, not_true_eq_false, not_false_eq_true, false_or, or_false, true_or, or_true, ite_not, Int.reduceNeg, Int32.reduceToInt, Nat.reduceAdd, Nat.reduceLeDiff, Nat.reduceLT, Nat.reduceEqDiff, Int.reduceAdd, Int.reduceSub, Int.reduceMul, Nat.zero_le, pk_po_ne, pk_po_eq, pk_po_ix, rI, ne_eq, a3, b3, b4]
    exact e
theorem R177 {p w : Int} (hR : RR S M) (hH : hou S) (hI : crs S 78) (hp : wz p = p) (hw : wz w = w) (hP : PR X s dh dl t M Q cB (o_person S p w)) : CL 177 [.ref 142, vI p, vI w] (mkh X s dh dl t M) Q := by
  have n1 := hH.np
  have hR0 := hR.pw (a := 142) (i := 0) (x := 0) rfl
  have hF0 : FR M (po M 142 0 0) := FR.rfl.pw (by decide)
  simp (disch := omega) only [↓x_al_0, ↓x_c, ↓pi_142_0, ↓x_il_1, ↓c_166, ↓x_eq0, ↓x_il_2, ↓c_120, ↓c_119, ↓x_ne0, ↓x_ir, ↓gr_142_14, ↓x_imul, ↓x_iadd, ↓x_ne, ↓gr_142_44, ↓c_165, ↓c_173, ↓c_174, ↓gi_142_52, ↓ld_149, ↓ld_162, ↓n_177, ↓s_177_0, ↓s_177_29, ↓s_177_47, ↓s_177_59, ↓s_177_75, ↓s_177_86, ↓bk_v, ↓bk_n, ↓bk_r, ↓pv_i, ↓pv_r, ↓pv_0, ↓pv_l, wz_pk, wz_ti, wz_wz, vI_wz, wz_id, wz_0, List.length_cons, List.length_nil, ↓reduceIte, true_and, and_true, Int.reduceLE, Int.reduceLT, Int.reduceEq, not_true_eq_false, not_false_eq_true, false_or, or_false, true_or, or_true, ite_not, Int.reduceNeg, Int32.reduceToInt, Nat.reduceAdd, Nat.reduceLeDiff, Nat.reduceLT, Nat.reduceEqDiff, Int.reduceAdd, Int.reduceSub, Int.reduceMul, Nat.zero_le, pk_po_ne, pk_po_eq, pk_po_ix, rI, ne_eq, ↓R166 (c := 1) hR0 hH hp th0 rfl (by decide), ↓R120, ↓R119 (M := po M 142 0 0) (c := 2) (k := 1) th0 rfl (by decide) (by decide), hw, decide_eq_true_eq]
  by_cases h : 0 ≤ p ∧ p < S 3 0
  · rw [if_pos h]
    by_cases h2 : 0 ≤ w ∧ w ≤ 4
    · rw [if_pos h2]
      have e := fun M' hR' hF' ht' => hP.ok (M' := M') (by rw [o_person, if_pos h, if_pos h2]) hR' hF' ht'
      have g0 := hR.h.needs p h.1 h.2
      have g1 := hR.c.stage p h.1 (by omega)
      have hs := c78_stage hI p h.1 (by omega)
      have b1 : 38 * p < 152 := by omega
      have b2 : 0 ≤ 38 * p := by omega
      have b3 : p < 4 := by omega
      have b4 : 0 ≤ p := by omega
      have hw5 : w = 0 ∨ w = 1 ∨ w = 2 ∨ w = 3 ∨ w = 4 := by omega
      rw [s_177_31]
      rcases hw5 with rfl | rfl | rfl | rfl | rfl
      · have e := e _ hR0 hF0 th0
        simp only [if_true] at e
        simp (disch := omega) only [↓x_al_0, ↓x_c, ↓pi_142_0, ↓x_il_1, ↓c_166, ↓x_eq0, ↓x_il_2, ↓c_120, ↓c_119, ↓x_ne0, ↓x_ir, ↓gr_142_14, ↓x_imul, ↓x_iadd, ↓x_ne, ↓gr_142_44, ↓c_165, ↓c_173, ↓c_174, ↓gi_142_52, ↓ld_149, ↓ld_162, ↓n_177, ↓s_177_0, ↓s_177_29, ↓s_177_31, ↓s_177_47, ↓s_177_59, ↓s_177_75, ↓s_177_86, ↓bk_v, ↓bk_n, ↓bk_r, ↓pv_i, ↓pv_r, ↓pv_0, ↓pv_l, wz_pk, wz_ti, wz_wz, vI_wz, wz_id, wz_0, List.length_cons, List.length_nil, ↓reduceIte, true_and, and_true, Int.reduceLE, Int.reduceLT, Int.reduceEq, not_true_eq_false, not_false_eq_true, false_or, or_false, true_or, or_true, ite_not, Int.reduceNeg, Int32.reduceToInt, Nat.reduceAdd, Nat.reduceLeDiff, Nat.reduceLT, Nat.reduceEqDiff, Int.reduceAdd, Int.reduceSub, Int.reduceMul, Nat.zero_le, pk_po_ne, pk_po_eq, pk_po_ix, rI, ne_eq, g0, b1, b2, Int.add_zero]
        exact e
      · have e := e _ hR0 hF0 th0
        simp only [if_true, Int.reduceEq, if_false] at e
        simp (disch := omega) only [↓x_al_0, ↓x_c, ↓pi_142_0, ↓x_il_1, ↓c_166, ↓x_eq0, ↓x_il_2, ↓c_120, ↓c_119, ↓x_ne0, ↓x_ir, ↓gr_142_14, ↓x_imul, ↓x_iadd, ↓x_ne, ↓gr_142_44, ↓c_165, ↓c_173, ↓c_174, ↓gi_142_52, ↓ld_149, ↓ld_162, ↓n_177, ↓s_177_0, ↓s_177_29, ↓s_177_31, ↓s_177_47, ↓s_177_59, ↓s_177_75, ↓s_177_86, ↓bk_v, ↓bk_n, ↓bk_r, ↓pv_i, ↓pv_r, ↓pv_0, ↓pv_l, wz_pk, wz_ti, wz_wz, vI_wz, wz_id, wz_0, List.length_cons, List.length_nil, ↓reduceIte, true_and, and_true, Int.reduceLE, Int.reduceLT, Int.reduceEq, not_true_eq_false, not_false_eq_true, false_or, or_false, true_or, or_true, ite_not, Int.reduceNeg, Int32.reduceToInt, Nat.reduceAdd, Nat.reduceLeDiff, Nat.reduceLT, Nat.reduceEqDiff, Int.reduceAdd, Int.reduceSub, Int.reduceMul, Nat.zero_le, pk_po_ne, pk_po_eq, pk_po_ix, rI, ne_eq, g1, b3, b4]
        exact e
      · have e := e _ hR0 hF0 th0
        simp only [if_true, Int.reduceEq, if_false] at e
        simp (disch := omega) only [↓x_al_0, ↓x_c, ↓pi_142_0, ↓x_il_1, ↓c_166, ↓x_eq0, ↓x_il_2, ↓c_120, ↓c_119, ↓x_ne0, ↓x_ir, ↓gr_142_14, ↓x_imul, ↓x_iadd, ↓x_ne, ↓gr_142_44, ↓c_165, ↓c_173, ↓c_174, ↓gi_142_52, ↓ld_149, ↓ld_162, ↓n_177, ↓s_177_0, ↓s_177_29, ↓s_177_31, ↓s_177_47, ↓s_177_59, ↓s_177_75, ↓s_177_86, ↓bk_v, ↓bk_n, ↓bk_r, ↓pv_i, ↓pv_r, ↓pv_0, ↓pv_l, wz_pk, wz_ti, wz_wz, vI_wz, wz_id, wz_0, List.length_cons, List.length_nil, ↓reduceIte, true_and, and_true, Int.reduceLE, Int.reduceLT, Int.reduceEq, not_true_eq_false, not_false_eq_true, false_or, or_false, true_or, or_true, ite_not, Int.reduceNeg, Int32.reduceToInt, Nat.reduceAdd, Nat.reduceLeDiff, Nat.reduceLT, Nat.reduceEqDiff, Int.reduceAdd, Int.reduceSub, Int.reduceMul, Nat.zero_le, pk_po_ne, pk_po_eq, pk_po_ix, rI, ne_eq, g1, b3, b4, ↓R165 hR0 hs.1 hs.2]
        exact e
      · have e := e _ hR0 hF0 th0
        simp only [if_true, Int.reduceEq, if_false] at e
        simp (disch := omega) only [↓x_al_0, ↓x_c, ↓pi_142_0, ↓x_il_1, ↓c_166, ↓x_eq0, ↓x_il_2, ↓c_120, ↓c_119, ↓x_ne0, ↓x_ir, ↓gr_142_14, ↓x_imul, ↓x_iadd, ↓x_ne, ↓gr_142_44, ↓c_165, ↓c_173, ↓c_174, ↓gi_142_52, ↓ld_149, ↓ld_162, ↓n_177, ↓s_177_0, ↓s_177_29, ↓s_177_31, ↓s_177_47, ↓s_177_59, ↓s_177_75, ↓s_177_86, ↓bk_v, ↓bk_n, ↓bk_r, ↓pv_i, ↓pv_r, ↓pv_0, ↓pv_l, wz_pk, wz_ti, wz_wz, vI_wz, wz_id, wz_0, List.length_cons, List.length_nil, ↓reduceIte, true_and, and_true, Int.reduceLE, Int.reduceLT, Int.reduceEq, not_true_eq_false, not_false_eq_true, false_or, or_false, true_or, or_true, ite_not, Int.reduceNeg, Int32.reduceToInt, Nat.reduceAdd, Nat.reduceLeDiff, Nat.reduceLT, Nat.reduceEqDiff, Int.reduceAdd, Int.reduceSub, Int.reduceMul, Nat.zero_le, pk_po_ne, pk_po_eq, pk_po_ix, rI, ne_eq, ↓R173 hR0 hH hI h]
        exact e
      · simp (disch := omega) only [↓x_al_0, ↓x_c, ↓pi_142_0, ↓x_il_1, ↓c_166, ↓x_eq0, ↓x_il_2, ↓c_120, ↓c_119, ↓x_ne0, ↓x_ir, ↓gr_142_14, ↓x_imul, ↓x_iadd, ↓x_ne, ↓gr_142_44, ↓c_165, ↓c_173, ↓c_174, ↓gi_142_52, ↓ld_149, ↓ld_162, ↓n_177, ↓s_177_0, ↓s_177_29, ↓s_177_31, ↓s_177_47, ↓s_177_59, ↓s_177_75, ↓s_177_86, ↓bk_v, ↓bk_n, ↓bk_r, ↓pv_i, ↓pv_r, ↓pv_0, ↓pv_l, wz_pk, wz_ti, wz_wz, vI_wz, wz_id, wz_0, List.length_cons, List.length_nil, ↓reduceIte, true_and, and_true, Int.reduceLE, Int.reduceLT, Int.reduceEq, not_true_eq_false, not_false_eq_true, false_or, or_false, true_or, or_true, ite_not, Int.reduceNeg, Int32.reduceToInt, Nat.reduceAdd, Nat.reduceLeDiff, Nat.reduceLT, Nat.reduceEqDiff, Int.reduceAdd, Int.reduceSub, Int.reduceMul, Nat.zero_le, pk_po_ne, pk_po_eq, pk_po_ix, rI, ne_eq]
        refine R174 hR0 hH hI h ?_
        intro M1 s1 a1 a2
        have e := e M1 (hR0.sf s1) (hF0.trans s1.1) (by rw [s1.th]; exact th0)
        simp only [if_true, Int.reduceEq, if_false] at e
        simp only [↓x_al_0, ↓x_c, ↓pi_142_0, ↓x_il_1, ↓c_166, ↓x_eq0, ↓x_il_2, ↓c_120, ↓c_119, ↓x_ne0, ↓x_ir, ↓gr_142_14, ↓x_imul, ↓x_iadd, ↓x_ne, ↓gr_142_44, ↓c_165, ↓c_173, ↓c_174, ↓gi_142_52, ↓ld_149, ↓ld_162, ↓n_177, ↓s_177_0, ↓s_177_29, ↓s_177_31, ↓s_177_47, ↓s_177_59, ↓s_177_75, ↓s_177_86, ↓bk_v, ↓bk_n, ↓bk_r, ↓pv_i, ↓pv_r, ↓pv_0, ↓pv_l, wz_pk, wz_ti, wz_wz, vI_wz, wz_id, wz_0, List.length_cons, List.length_nil, ↓reduceIte, true_and, and_true, Int.reduceLE, Int.reduceLT, Int.reduceEq, not_true_eq_false, not_false_eq_true, false_or, or_false, true_or, or_true, ite_not, Int.reduceNeg, Int32.reduceToInt, Nat.reduceAdd, Nat.reduceLeDiff, Nat.reduceLT, Nat.reduceEqDiff, Int.reduceAdd, Int.reduceSub, Int.reduceMul, Nat.zero_le, pk_po_ne, pk_po_eq, pk_po_ix, rI, ne_eq, a1]
        exact e
    · rw [if_neg h2]
      exact hP.no 2 (by decide) (by rw [o_person, if_pos h, if_neg h2]) (hR0.ref (by decide)) hF0.rfM (rfM_t rfl)
  · rw [if_neg h]
    exact hP.no 1 (by decide) (by rw [o_person, if_neg h]) (hR0.ref (by decide)) hF0.rfM (rfM_t rfl)
theorem R182 {d w : Int} (hR : RR S M) (hH : hou S) (hI : crs S 78) (hd : wz d = d) (hw : wz w = w) (hP : PR X s dh dl t M Q cB (o_debt S d w)) : CL 182 [.ref 142, vI d, vI w] (mkh X s dh dl t M) Q := by
  have n1 := hH.nd
  have hR0 := hR.pw (a := 142) (i := 0) (x := 0) rfl
  have hF0 : FR M (po M 142 0 0) := FR.rfl.pw (by decide)
  simp (disch := omega) only [↓x_al_0, ↓x_c, ↓pi_142_0, ↓x_il_1, ↓c_167, ↓x_eq0, ↓x_il_2, ↓c_120, ↓c_119, ↓x_ne0, ↓x_ir, ↓x_ge, ↓gr_142_16, ↓x_imul, ↓x_iadd, ↓x_go, ↓x_ne, ↓c_181, ↓gr_142_47, ↓ld_151, ↓ld_165, ↓n_182, ↓s_182_0, ↓s_182_29, ↓s_182_49, ↓s_182_62, ↓s_182_68, ↓bk_v, ↓bk_n, ↓bk_r, ↓pv_i, ↓pv_r, ↓pv_0, ↓pv_l, wz_pk, wz_ti, wz_wz, vI_wz, wz_id, wz_0, List.length_cons, List.length_nil, ↓reduceIte, true_and, and_true, Int.reduceLE, Int.reduceLT, Int.reduceEq, not_true_eq_false, not_false_eq_true, false_or, or_false, true_or, or_true, ite_not, Int.reduceNeg, Int32.reduceToInt, Nat.reduceAdd, Nat.reduceLeDiff, Nat.reduceLT, Nat.reduceEqDiff, Int.reduceAdd, Int.reduceSub, Int.reduceMul, Nat.zero_le, pk_po_ne, pk_po_eq, pk_po_ix, rI, ne_eq, ↓R167 (c := 1) hR0 hH hd th0 rfl (by decide), ↓R120, ↓R119 (M := po M 142 0 0) (c := 2) (k := 1) th0 rfl (by decide) (by decide), hw, decide_eq_true_eq]
  by_cases h : 0 ≤ d ∧ d < S 3 2
  · rw [if_pos h]
    by_cases h2 : 0 ≤ w ∧ w ≤ 4
    · rw [if_pos h2]
      have e := fun M' hR' hF' ht' => hP.ok (M' := M') (by rw [o_debt, if_pos h, if_pos h2]) hR' hF' ht'
      have g0 := hR.h.dbt d h.1 h.2
      have g1 := hR.h.amt d h.1 h.2
      have g2 := hR.h.writ d h.1 h.2
      have g3 := hR.c.aside d h.1 (by omega)
      have b1 : 3 * d < 18 := by omega
      have b2 : 0 ≤ 3 * d := by omega
      have b5 : 3 * d + 1 < 18 := by omega
      have b6 : 0 ≤ 3 * d + 1 := by omega
      have b7 : 3 * d + 2 < 18 := by omega
      have b8 : 0 ≤ 3 * d + 2 := by omega
      have b3 : d < 6 := by omega
      have b4 : 0 ≤ d := by omega
      have hw5 : w = 0 ∨ w = 1 ∨ w = 2 ∨ w = 3 ∨ w = 4 := by omega
      rw [s_182_31]
      rcases hw5 with rfl | rfl | rfl | rfl | rfl
      · have e := e _ hR0 hF0 th0
        simp only [if_true] at e
        simp (disch := omega) only [↓x_al_0, ↓x_c, ↓pi_142_0, ↓x_il_1, ↓c_167, ↓x_eq0, ↓x_il_2, ↓c_120, ↓c_119, ↓x_ne0, ↓x_ir, ↓x_ge, ↓gr_142_16, ↓x_imul, ↓x_iadd, ↓x_go, ↓x_ne, ↓c_181, ↓gr_142_47, ↓ld_151, ↓ld_165, ↓n_182, ↓s_182_0, ↓s_182_29, ↓s_182_31, ↓s_182_49, ↓s_182_62, ↓s_182_68, ↓bk_v, ↓bk_n, ↓bk_r, ↓pv_i, ↓pv_r, ↓pv_0, ↓pv_l, wz_pk, wz_ti, wz_wz, vI_wz, wz_id, wz_0, List.length_cons, List.length_nil, ↓reduceIte, true_and, and_true, Int.reduceLE, Int.reduceLT, Int.reduceEq, not_true_eq_false, not_false_eq_true, false_or, or_false, true_or, or_true, ite_not, Int.reduceNeg, Int32.reduceToInt, Nat.reduceAdd, Nat.reduceLeDiff, Nat.reduceLT, Nat.reduceEqDiff, Int.reduceAdd, Int.reduceSub, Int.reduceMul, Nat.zero_le, pk_po_ne, pk_po_eq, pk_po_ix, rI, ne_eq, g0, b1, b2, Int.add_zero]
        exact e
      · have e := e _ hR0 hF0 th0
        simp only [if_true, Int.reduceEq, if_false] at e
        simp (disch := omega) only [↓x_al_0, ↓x_c, ↓pi_142_0, ↓x_il_1, ↓c_167, ↓x_eq0, ↓x_il_2, ↓c_120, ↓c_119, ↓x_ne0, ↓x_ir, ↓x_ge, ↓gr_142_16, ↓x_imul, ↓x_iadd, ↓x_go, ↓x_ne, ↓c_181, ↓gr_142_47, ↓ld_151, ↓ld_165, ↓n_182, ↓s_182_0, ↓s_182_29, ↓s_182_31, ↓s_182_49, ↓s_182_62, ↓s_182_68, ↓bk_v, ↓bk_n, ↓bk_r, ↓pv_i, ↓pv_r, ↓pv_0, ↓pv_l, wz_pk, wz_ti, wz_wz, vI_wz, wz_id, wz_0, List.length_cons, List.length_nil, ↓reduceIte, true_and, and_true, Int.reduceLE, Int.reduceLT, Int.reduceEq, not_true_eq_false, not_false_eq_true, false_or, or_false, true_or, or_true, ite_not, Int.reduceNeg, Int32.reduceToInt, Nat.reduceAdd, Nat.reduceLeDiff, Nat.reduceLT, Nat.reduceEqDiff, Int.reduceAdd, Int.reduceSub, Int.reduceMul, Nat.zero_le, pk_po_ne, pk_po_eq, pk_po_ix, rI, ne_eq, g1, b5, b6]
        exact e
      · have e := e _ hR0 hF0 th0
        simp only [if_true, Int.reduceEq, if_false] at e
        simp (disch := omega) only [↓x_al_0, ↓x_c, ↓pi_142_0, ↓x_il_1, ↓c_167, ↓x_eq0, ↓x_il_2, ↓c_120, ↓c_119, ↓x_ne0, ↓x_ir, ↓x_ge, ↓gr_142_16, ↓x_imul, ↓x_iadd, ↓x_go, ↓x_ne, ↓c_181, ↓gr_142_47, ↓ld_151, ↓ld_165, ↓n_182, ↓s_182_0, ↓s_182_29, ↓s_182_31, ↓s_182_49, ↓s_182_62, ↓s_182_68, ↓bk_v, ↓bk_n, ↓bk_r, ↓pv_i, ↓pv_r, ↓pv_0, ↓pv_l, wz_pk, wz_ti, wz_wz, vI_wz, wz_id, wz_0, List.length_cons, List.length_nil, ↓reduceIte, true_and, and_true, Int.reduceLE, Int.reduceLT, Int.reduceEq, not_true_eq_false, not_false_eq_true, false_or, or_false, true_or, or_true, ite_not, Int.reduceNeg, Int32.reduceToInt, Nat.reduceAdd, Nat.reduceLeDiff, Nat.reduceLT, Nat.reduceEqDiff, Int.reduceAdd, Int.reduceSub, Int.reduceMul, Nat.zero_le, pk_po_ne, pk_po_eq, pk_po_ix, rI, ne_eq, g2, b7, b8]
        exact e
      · simp (disch := omega) only [↓x_al_0, ↓x_c, ↓pi_142_0, ↓x_il_1, ↓c_167, ↓x_eq0, ↓x_il_2, ↓c_120, ↓c_119, ↓x_ne0, ↓x_ir, ↓x_ge, ↓gr_142_16, ↓x_imul, ↓x_iadd, ↓x_go, ↓x_ne, ↓c_181, ↓gr_142_47, ↓ld_151, ↓ld_165, ↓n_182, ↓s_182_0, ↓s_182_29, ↓s_182_31, ↓s_182_49, ↓s_182_62, ↓s_182_68, ↓bk_v, ↓bk_n, ↓bk_r, ↓pv_i, ↓pv_r, ↓pv_0, ↓pv_l, wz_pk, wz_ti, wz_wz, vI_wz, wz_id, wz_0, List.length_cons, List.length_nil, ↓reduceIte, true_and, and_true, Int.reduceLE, Int.reduceLT, Int.reduceEq, not_true_eq_false, not_false_eq_true, false_or, or_false, true_or, or_true, ite_not, Int.reduceNeg, Int32.reduceToInt, Nat.reduceAdd, Nat.reduceLeDiff, Nat.reduceLT, Nat.reduceEqDiff, Int.reduceAdd, Int.reduceSub, Int.reduceMul, Nat.zero_le, pk_po_ne, pk_po_eq, pk_po_ix, rI, ne_eq]
        refine R181 hR0 hH hI h ?_
        intro M1 s1
        have e := e M1 (hR0.sf s1) (hF0.trans s1.1) (by rw [s1.th]; exact th0)
        simp only [if_true, Int.reduceEq, if_false] at e
        simp only [↓x_al_0, ↓x_c, ↓pi_142_0, ↓x_il_1, ↓c_167, ↓x_eq0, ↓x_il_2, ↓c_120, ↓c_119, ↓x_ne0, ↓x_ir, ↓x_ge, ↓gr_142_16, ↓x_imul, ↓x_iadd, ↓x_go, ↓x_ne, ↓c_181, ↓gr_142_47, ↓ld_151, ↓ld_165, ↓n_182, ↓s_182_0, ↓s_182_29, ↓s_182_31, ↓s_182_49, ↓s_182_62, ↓s_182_68, ↓bk_v, ↓bk_n, ↓bk_r, ↓pv_i, ↓pv_r, ↓pv_0, ↓pv_l, wz_pk, wz_ti, wz_wz, vI_wz, wz_id, wz_0, List.length_cons, List.length_nil, ↓reduceIte, true_and, and_true, Int.reduceLE, Int.reduceLT, Int.reduceEq, not_true_eq_false, not_false_eq_true, false_or, or_false, true_or, or_true, ite_not, Int.reduceNeg, Int32.reduceToInt, Nat.reduceAdd, Nat.reduceLeDiff, Nat.reduceLT, Nat.reduceEqDiff, Int.reduceAdd, Int.reduceSub, Int.reduceMul, Nat.zero_le, pk_po_ne, pk_po_eq, pk_po_ix, rI, ne_eq]
        exact e
      · have e := e _ hR0 hF0 th0
        simp only [if_true, Int.reduceEq, if_false] at e
        simp (disch := omega) only [↓x_al_0, ↓x_c, ↓pi_142_0, ↓x_il_1, ↓c_167, ↓x_eq0, ↓x_il_2, ↓c_120, ↓c_119, ↓x_ne0, ↓x_ir, ↓x_ge, ↓gr_142_16, ↓x_imul, ↓x_iadd, ↓x_go, ↓x_ne, ↓c_181, ↓gr_142_47, ↓ld_151, ↓ld_165, ↓n_182, ↓s_182_0, ↓s_182_29, ↓s_182_31, ↓s_182_49, ↓s_182_62, ↓s_182_68, ↓bk_v, ↓bk_n, ↓bk_r, ↓pv_i, ↓pv_r, ↓pv_0, ↓pv_l, wz_pk, wz_ti, wz_wz, vI_wz, wz_id, wz_0, List.length_cons, List.length_nil, ↓reduceIte, true_and, and_true, Int.reduceLE, Int.reduceLT, Int.reduceEq, not_true_eq_false, not_false_eq_true, false_or, or_false, true_or, or_true, ite_not, Int.reduceNeg, Int32.reduceToInt, Nat.reduceAdd, Nat.reduceLeDiff, Nat.reduceLT, Nat.reduceEqDiff, Int.reduceAdd, Int.reduceSub, Int.reduceMul, Nat.zero_le, pk_po_ne, pk_po_eq, pk_po_ix, rI, ne_eq, g3, b3, b4]
        exact e
    · rw [if_neg h2]
      exact hP.no 2 (by decide) (by rw [o_debt, if_pos h, if_neg h2]) (hR0.ref (by decide)) hF0.rfM (rfM_t rfl)
  · rw [if_neg h]
    exact hP.no 1 (by decide) (by rw [o_debt, if_neg h]) (hR0.ref (by decide)) hF0.rfM (rfM_t rfl)
theorem R183 {d : Int} (hR : RR S M) (hH : hou S) (hI : crs S 78) (hd : wz d = d) (hP : PR X s dh dl t M Q cA (o_aside S d)) : CL 183 [.ref 142, vI d] (mkh X s dh dl t M) Q := by
  have n1 := hH.nd
  have hR0 := hR.pw (a := 142) (i := 0) (x := 0) rfl
  have hF0 : FR M (po M 142 0 0) := FR.rfl.pw (by decide)
  simp (disch := omega) only [↓x_al_0, ↓x_c, ↓pi_142_0, ↓x_il_1, ↓c_167, ↓x_ne0, ↓x_ir, ↓c_181, ↓x_is_2, ↓gr_142_47, ↓x_il_2, ↓st_165, ↓n_183, ↓s_183_0, ↓s_183_16, ↓bk_v, ↓bk_n, ↓bk_r, ↓pv_i, ↓pv_r, ↓pv_0, ↓pv_l, wz_pk, wz_ti, wz_wz, vI_wz, wz_id, wz_0, List.length_cons, List.length_nil, ↓reduceIte, true_and, and_true, Int.reduceLE, Int.reduceLT, Int.reduceEq, not_true_eq_false, not_false_eq_true, false_or, or_false, true_or, or_true, ite_not, Int.reduceNeg, Int32.reduceToInt, Nat.reduceAdd, Nat.reduceLeDiff, Nat.reduceLT, Nat.reduceEqDiff, Int.reduceAdd, Int.reduceSub, Int.reduceMul, Nat.zero_le, pk_po_ne, pk_po_eq, pk_po_ix, rI, ne_eq, ↓R167 (c := 1) hR0 hH hd th0 rfl (by decide)]
  by_cases h : 0 ≤ d ∧ d < S 3 2
  · rw [if_pos h]
    refine R181 hR0 hH hI h ?_
    intro M1 s1
    have e := hP.ok (M' := po M1 165 d 1) (by rw [o_aside, if_pos h]) ((hR0.sf s1).row (n := 6) (Or.inr (Or.inr (Or.inr ⟨rfl, rfl, rfl⟩))) rfl) ((hF0.trans s1.1).pw (by decide)) (by rw [pk_po_ne (by decide), s1.th]; exact th0)
    have b3 : d < 6 := by omega
    have b4 : 0 ≤ d := by omega
    simp (disch := omega) only [↓x_al_0, ↓x_c, ↓pi_142_0, ↓x_il_1, ↓c_167, ↓x_ne0, ↓x_ir, ↓c_181, ↓x_is_2, ↓gr_142_47, ↓x_il_2, ↓st_165, ↓n_183, ↓s_183_0, ↓s_183_16, ↓bk_v, ↓bk_n, ↓bk_r, ↓pv_i, ↓pv_r, ↓pv_0, ↓pv_l, wz_pk, wz_ti, wz_wz, vI_wz, wz_id, wz_0, List.length_cons, List.length_nil, ↓reduceIte, true_and, and_true, Int.reduceLE, Int.reduceLT, Int.reduceEq, not_true_eq_false, not_false_eq_true, false_or, or_false, true_or, or_true, ite_not, Int.reduceNeg, Int32.reduceToInt, Nat.reduceAdd, Nat.reduceLeDiff, Nat.reduceLT, Nat.reduceEqDiff, Int.reduceAdd, Int.reduceSub, Int.reduceMul, Nat.zero_le, pk_po_ne, pk_po_eq, pk_po_ix, rI, ne_eq, b3, b4]
    exact e
  · rw [if_neg h]
    exact hP.no 1 (by decide) (by rw [o_aside, if_neg h]) (hR0.ref (by decide)) hF0.rfM (rfM_t rfl)
end R67
