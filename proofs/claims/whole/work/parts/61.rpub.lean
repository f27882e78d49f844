/-! THE REFERENCE'S PUBLIC METHODS, the plain ones -/
def cA (e : Int) : Int := if e = 0 then 0 else 1
def cB (e : Int) : Int := e
section R61
variable {Q : MOut → MHp → Prop} {X : Nat × (Nat → Int32)} {s : Bool × Bool} {dh dl t : Nat} {M : Mem} {S : St}
theorem th0 : pk (po M 142 0 0) 142 0 = 0 := by rw [pk_po_eq]; rfl
theorem rfM_t {c k : Int} (hc : wz c = c) : pk (rfM M c k) 142 0 = c := by unfold rfM; rw [pk_po_ne (by decide), pk_po_eq]; exact hc
theorem FR.rfM {c k : Int} {M' : Mem} (h : FR M M') : FR M (rfM M' c k) := (h.pw (by decide)).pw (by decide)
theorem wz_of {a : Nat} {i v : Int} (h : pk M a i = v) : wz v = v := by rw [← h]; exact wz_pk
theorem bi_1 (b : Bool) : (bi b = 1) = (b = true) := by cases b <;> simp [bi]
theorem R151 {w : Int} (hR : RR S M) (hw : wz w = w) (hP : PR X s dh dl t M Q cA (o_told S w)) : CL 151 [.ref 142, vI w] (mkh X s dh dl t M) Q := by
  have g1 := hR.h.np
  have g2 := hR.h.ng
  have g3 := hR.h.nd
  have g4 := hR.l.nr
  have g5 := hR.c.acts
  have g6 := hR.c.proms
  have hR0 := hR.pw (a := 142) (i := 0) (x := 0) rfl
  have hF0 : FR M (po M 142 0 0) := FR.rfl.pw (by decide)
  simp (disch := omega) only [↓x_al_0, ↓x_c, ↓pi_142_0, ↓x_il_1, ↓c_120, ↓c_119, ↓x_ne0, ↓x_ir, ↓gi_142_21, ↓x_go, ↓x_ne, ↓gi_142_22, ↓gi_142_23, ↓gi_142_31, ↓gi_142_49, ↓gi_142_50, ↓n_151, ↓s_151_0, ↓s_151_22, ↓s_151_33, ↓s_151_45, ↓s_151_57, ↓s_151_69, ↓s_151_81, ↓s_151_85, ↓bk_v, ↓bk_n, ↓bk_r, ↓pv_i, ↓pv_r, ↓pv_0, ↓pv_l, wz_pk, wz_ti, wz_wz, vI_wz, wz_id, wz_0, List.length_cons, List.length_nil, ↓reduceIte, true_and, and_true, Int.reduceLE, Int.reduceLT, Int.reduceEq, not_true_eq_false, not_false_eq_true, false_or, or_false, true_or, or_true, ite_not, Int.reduceNeg, Int32.reduceToInt, Nat.reduceAdd, Nat.reduceLeDiff, Nat.reduceLT, Nat.reduceEqDiff, Int.reduceAdd, Int.reduceSub, Int.reduceMul, Nat.zero_le, pk_po_ne, pk_po_eq, pk_po_ix, rI, ne_eq, ↓R120, ↓R119 (M := po M 142 0 0) (c := 1) (k := 1) th0 rfl (by decide) (by decide), hw, g1, g2, g3, g4, g5, g6, decide_eq_true_eq]
  by_cases h : 0 ≤ w ∧ w ≤ 5
  · have e := hP.ok (by rw [o_told, if_pos h]) hR0 hF0 th0
    grind
  · rw [if_neg h]
    exact hP.no 2 (by decide) (by rw [o_told, if_neg h]) (hR0.ref (by decide)) hF0.rfM (rfM_t rfl)
theorem R198 {w : Int} (hR : RR S M) (hw : wz w = w) (hP : PR X s dh dl t M Q cA (o_status S w)) : CL 198 [.ref 142, vI w] (mkh X s dh dl t M) Q := by
  have g := hR.refu w
  have hR0 := hR.pw (a := 142) (i := 0) (x := 0) rfl
  have e := hP.ok (by rw [o_status]) hR0 (FR.rfl.pw (by decide)) th0
  simp (disch := omega) only [↓x_al_0, ↓x_c, ↓pi_142_0, ↓x_il_1, ↓c_120, ↓x_eq0, ↓gr_142_1, ↓x_go, ↓x_ir, ↓ld_143, ↓n_198, ↓s_198_0, ↓s_198_23, ↓s_198_24, ↓bk_v, ↓bk_n, ↓bk_r, ↓pv_i, ↓pv_r, ↓pv_0, ↓pv_l, wz_pk, wz_ti, wz_wz, vI_wz, wz_id, wz_0, List.length_cons, List.length_nil, ↓reduceIte, true_and, and_true, Int.reduceLE, Int.reduceLT, Int.reduceEq, not_true_eq_false, not_false_eq_true, false_or, or_false, true_or, or_true, ite_not, Int.reduceNeg, Int32.reduceToInt, Nat.reduceAdd, Nat.reduceLeDiff, Nat.reduceLT, Nat.reduceEqDiff, Int.reduceAdd, Int.reduceSub, Int.reduceMul, Nat.zero_le, pk_po_ne, pk_po_eq, pk_po_ix, rI, ne_eq, ↓R120, hw, bi_wz, bi_0]
  grind
theorem R199 {w : Int} (hR : RR S M) (hw : wz w = w) (hP : PR X s dh dl t M Q cA (o_count S w)) : CL 199 [.ref 142, vI w] (mkh X s dh dl t M) Q := by
  have g1 := hR.imgs
  have g2 := hR.taped
  have hR0 := hR.pw (a := 142) (i := 0) (x := 0) rfl
  have e := hP.ok (by rw [o_count]) hR0 (FR.rfl.pw (by decide)) th0
  simp (disch := omega) only [↓x_al_0, ↓x_c, ↓pi_142_0, ↓x_il_1, ↓x_ne0, ↓gi_142_60, ↓x_go, ↓x_ne, ↓gi_142_2, ↓x_ir, ↓n_199, ↓s_199_0, ↓s_199_16, ↓s_199_28, ↓s_199_29, ↓pv_i, ↓pv_r, ↓pv_0, ↓pv_l, wz_pk, wz_ti, wz_wz, vI_wz, wz_id, wz_0, List.length_cons, List.length_nil, ↓reduceIte, true_and, and_true, Int.reduceLE, Int.reduceLT, Int.reduceEq, not_true_eq_false, not_false_eq_true, false_or, or_false, true_or, or_true, ite_not, Int.reduceNeg, Int32.reduceToInt, Nat.reduceAdd, Nat.reduceLeDiff, Nat.reduceLT, Nat.reduceEqDiff, Int.reduceAdd, Int.reduceSub, Int.reduceMul, Nat.zero_le, pk_po_ne, pk_po_eq, pk_po_ix, rI, ne_eq, hw, g1, g2]
  grind
theorem R136 (hR : RR S M) (hP : PR X s dh dl t M Q cA (o_fault S)) : CL 136 [.ref 142] (mkh X s dh dl t M) Q := by
  have g1 := hR.fau
  have hR0 := hR.pw (a := 142) (i := 0) (x := 0) rfl
  have e := hP.ok (by rw [o_fault]) hR0 (FR.rfl.pw (by decide)) th0
  simp (disch := omega) only [↓x_al_0, ↓x_c, ↓pi_142_0, ↓gi_142_8, ↓x_ir, ↓n_136, ↓s_136_0, ↓pv_i, ↓pv_r, ↓pv_0, ↓pv_l, wz_pk, wz_ti, wz_wz, vI_wz, wz_id, wz_0, List.length_cons, List.length_nil, ↓reduceIte, true_and, and_true, Int.reduceLE, Int.reduceLT, Int.reduceEq, not_true_eq_false, not_false_eq_true, false_or, or_false, true_or, or_true, ite_not, Int.reduceNeg, Int32.reduceToInt, Nat.reduceAdd, Nat.reduceLeDiff, Nat.reduceLT, Nat.reduceEqDiff, Int.reduceAdd, Int.reduceSub, Int.reduceMul, Nat.zero_le, pk_po_ne, pk_po_eq, pk_po_ix, rI, ne_eq, g1]
  exact e
theorem R190 (hR : RR S M) (hP : PR X s dh dl t M Q cA (o_forget S)) : CL 190 [.ref 142] (mkh X s dh dl t M) Q := by
  have g1 := hR.c.proms
  have hR1 : RR (su S 78 9 0) (po (po M 142 0 0) 142 50 0) := by
    have hR0 := hR.pw (a := 142) (i := 0) (x := 0) rfl
    have hs : ∀ a i, ¬ (a = 142 ∧ i = 50) → pk (po (po M 142 0 0) 142 50 0) a i = pk (po M 142 0 0) a i := fun a i h => by rw [pk_po, if_neg h]
    refine hR0.upC (fun a ha => by funext j; unfold su; rw [if_neg (by omega)]) (fun a i h1 h2 => hs a i (by rintro ⟨rfl, rfl⟩; cases h2)) ?_
    obtain ⟨b1, b2, b3, b4, b5, b6, b7, b8, b9, b10, b11, b12, b13⟩ := hR0.c
    exact ⟨by rw [hs _ _ (by decide)]; exact b1, fun i u v => by rw [hs _ _ (by simp)]; exact b2 i u v, fun i u v => by rw [hs _ _ (by simp)]; exact b3 i u v, fun i u v => by rw [hs _ _ (by simp)]; exact b4 i u v, fun i u v => by rw [hs _ _ (by simp)]; exact b5 i u v, fun i u v => by rw [hs _ _ (by simp)]; exact b6 i u v, fun i u v => by rw [hs _ _ (by simp)]; exact b7 i u v, fun i u v => by rw [hs _ _ (by simp)]; exact b8 i u v, fun i u v => by rw [hs _ _ (by simp)]; exact b9 i u v, by rw [pk_po_eq]; rfl, fun k u v => by simp [su] at v; omega, fun k u v => by simp [su] at v; omega, fun k u v => by simp [su] at v; omega⟩
  have e := hP.ok (by rw [o_forget]) hR1 ((FR.rfl.pw (by decide)).pw (by decide)) (by rw [pk_po_ix (by decide)]; exact th0)
  simp (disch := omega) only [↓x_al_0, ↓x_c, ↓pi_142_0, ↓gi_142_50, ↓x_is_1, ↓pi_142_50, ↓x_il_1, ↓x_ir, ↓n_190, ↓s_190_0, ↓pv_i, ↓pv_r, ↓pv_0, ↓pv_l, wz_pk, wz_ti, wz_wz, vI_wz, wz_id, wz_0, List.length_cons, List.length_nil, ↓reduceIte, true_and, and_true, Int.reduceLE, Int.reduceLT, Int.reduceEq, not_true_eq_false, not_false_eq_true, false_or, or_false, true_or, or_true, ite_not, Int.reduceNeg, Int32.reduceToInt, Nat.reduceAdd, Nat.reduceLeDiff, Nat.reduceLT, Nat.reduceEqDiff, Int.reduceAdd, Int.reduceSub, Int.reduceMul, Nat.zero_le, pk_po_ne, pk_po_eq, pk_po_ix, rI, ne_eq, g1]
  exact e
theorem R166 {p c : Int} (hR : RR S M) (hH : hou S) (hp : wz p = p) (h0 : pk M 142 0 = 0) (hc : wz c = c) (hc0 : ¬ c = 0) : CL 166 [.ref 142, vI p, vI c] (mkh X s dh dl t M) Q ↔ if 0 ≤ p ∧ p < S 3 0 then Q (rI 1) (mkh X s dh dl t M) else Q (rI 0) (mkh X s dh dl t (rfM M c 0)) := by
  have g1 := hR.h.np
  have n1 := hH.np
  simp (disch := omega) only [↓x_al_0, ↓x_il_1, ↓x_c, ↓gi_142_21, ↓x_isub, ↓c_120, ↓x_il_2, ↓c_119, ↓x_irz, ↓n_166, ↓s_166_0, ↓bk_v, ↓bk_n, ↓bk_r, ↓pv_i, ↓pv_r, ↓pv_0, ↓pv_l, wz_pk, wz_ti, wz_wz, vI_wz, wz_id, wz_0, List.length_cons, List.length_nil, ↓reduceIte, true_and, and_true, Int.reduceLE, Int.reduceLT, Int.reduceEq, not_true_eq_false, not_false_eq_true, false_or, or_false, true_or, or_true, ite_not, Int.reduceNeg, Int32.reduceToInt, Nat.reduceAdd, Nat.reduceLeDiff, Nat.reduceLT, Nat.reduceEqDiff, Int.reduceAdd, Int.reduceSub, Int.reduceMul, Nat.zero_le, pk_po_ne, pk_po_eq, pk_po_ix, rI, ne_eq, ↓R120, ↓R119 (M := M) (c := c) (k := 0) h0 hc hc0 (by decide), hp, g1, decide_eq_true_eq]
  by_cases h : 0 ≤ p ∧ p < S 3 0
  · rw [if_pos (by omega), if_pos h]
  · rw [if_neg (by omega), if_neg h]
theorem R167 {p c : Int} (hR : RR S M) (hH : hou S) (hp : wz p = p) (h0 : pk M 142 0 = 0) (hc : wz c = c) (hc0 : ¬ c = 0) : CL 167 [.ref 142, vI p, vI c] (mkh X s dh dl t M) Q ↔ if 0 ≤ p ∧ p < S 3 2 then Q (rI 1) (mkh X s dh dl t M) else Q (rI 0) (mkh X s dh dl t (rfM M c 0)) := by
  have g1 := hR.h.nd
  have n1 := hH.nd
  simp (disch := omega) only [↓x_al_0, ↓x_il_1, ↓x_c, ↓gi_142_23, ↓x_isub, ↓c_120, ↓x_il_2, ↓c_119, ↓x_irz, ↓n_167, ↓s_167_0, ↓bk_v, ↓bk_n, ↓bk_r, ↓pv_i, ↓pv_r, ↓pv_0, ↓pv_l, wz_pk, wz_ti, wz_wz, vI_wz, wz_id, wz_0, List.length_cons, List.length_nil, ↓reduceIte, true_and, and_true, Int.reduceLE, Int.reduceLT, Int.reduceEq, not_true_eq_false, not_false_eq_true, false_or, or_false, true_or, or_true, ite_not, Int.reduceNeg, Int32.reduceToInt, Nat.reduceAdd, Nat.reduceLeDiff, Nat.reduceLT, Nat.reduceEqDiff, Int.reduceAdd, Int.reduceSub, Int.reduceMul, Nat.zero_le, pk_po_ne, pk_po_eq, pk_po_ix, rI, ne_eq, ↓R120, ↓R119 (M := M) (c := c) (k := 0) h0 hc hc0 (by decide), hp, g1, decide_eq_true_eq]
  by_cases h : 0 ≤ p ∧ p < S 3 2
  · rw [if_pos (by omega), if_pos h]
  · rw [if_neg (by omega), if_neg h]
theorem R168 {p c : Int} (hR : RR S M) (hH : hou S) (hp : wz p = p) (h0 : pk M 142 0 = 0) (hc : wz c = c) (hc0 : ¬ c = 0) : CL 168 [.ref 142, vI p, vI c] (mkh X s dh dl t M) Q ↔ if 0 ≤ p ∧ p < S 3 1 then Q (rI 1) (mkh X s dh dl t M) else Q (rI 0) (mkh X s dh dl t (rfM M c 0)) := by
  have g1 := hR.h.ng
  have n1 := hH.ng
  simp (disch := omega) only [↓x_al_0, ↓x_il_1, ↓x_c, ↓gi_142_22, ↓x_isub, ↓c_120, ↓x_il_2, ↓c_119, ↓x_irz, ↓n_168, ↓s_168_0, ↓bk_v, ↓bk_n, ↓bk_r, ↓pv_i, ↓pv_r, ↓pv_0, ↓pv_l, wz_pk, wz_ti, wz_wz, vI_wz, wz_id, wz_0, List.length_cons, List.length_nil, ↓reduceIte, true_and, and_true, Int.reduceLE, Int.reduceLT, Int.reduceEq, not_true_eq_false, not_false_eq_true, false_or, or_false, true_or, or_true, ite_not, Int.reduceNeg, Int32.reduceToInt, Nat.reduceAdd, Nat.reduceLeDiff, Nat.reduceLT, Nat.reduceEqDiff, Int.reduceAdd, Int.reduceSub, Int.reduceMul, Nat.zero_le, pk_po_ne, pk_po_eq, pk_po_ix, rI, ne_eq, ↓R120, ↓R119 (M := M) (c := c) (k := 0) h0 hc hc0 (by decide), hp, g1, decide_eq_true_eq]
  by_cases h : 0 ≤ p ∧ p < S 3 1
  · rw [if_pos (by omega), if_pos h]
  · rw [if_neg (by omega), if_neg h]
theorem R178 {p m : Int} (hR : RR S M) (hH : hou S) (hp : wz p = p) (hm : wz m = m) (hP : PR X s dh dl t M Q cB (o_income S p m)) : CL 178 [.ref 142, vI p, vI m] (mkh X s dh dl t M) Q := by
  have n1 := hH.np
  have hR0 := hR.pw (a := 142) (i := 0) (x := 0) rfl
  have hF0 : FR M (po M 142 0 0) := FR.rfl.pw (by decide)
  simp (disch := omega) only [↓x_al_0, ↓x_c, ↓pi_142_0, ↓x_il_1, ↓c_166, ↓x_eq0, ↓x_il_2, ↓c_120, ↓c_119, ↓x_ne0, ↓x_ir, ↓gr_142_14, ↓x_imul, ↓x_iadd, ↓ld_149, ↓n_178, ↓s_178_0, ↓s_178_30, ↓s_178_32, ↓bk_v, ↓bk_n, ↓bk_r, ↓pv_i, ↓pv_r, ↓pv_0, ↓pv_l, wz_pk, wz_ti, wz_wz, vI_wz, wz_id, wz_0, List.length_cons, List.length_nil, ↓reduceIte, true_and, and_true, Int.reduceLE, Int.reduceLT, Int.reduceEq, not_true_eq_false, not_false_eq_true, false_or, or_false, true_or, or_true, ite_not, Int.reduceNeg, Int32.reduceToInt, Nat.reduceAdd, Nat.reduceLeDiff, Nat.reduceLT, Nat.reduceEqDiff, Int.reduceAdd, Int.reduceSub, Int.reduceMul, Nat.zero_le, pk_po_ne, pk_po_eq, pk_po_ix, rI, ne_eq, ↓R166 (c := 1) hR0 hH hp th0 rfl (by decide), ↓R120, ↓R119 (M := po M 142 0 0) (c := 2) (k := 1) th0 rfl (by decide) (by decide), hm, decide_eq_true_eq]
  by_cases h : 0 ≤ p ∧ p < S 3 0
  · rw [if_pos h]
    by_cases h2 : 0 ≤ m ∧ m ≤ 35
    · have e := hP.ok (by rw [o_income, if_pos h, if_pos h2]) hR0 hF0 th0
      have g := hR.h.inc p m h.1 h.2 h2.1 (by omega)
      simp (disch := omega) only [↓x_al_0, ↓x_c, ↓pi_142_0, ↓x_il_1, ↓c_166, ↓x_eq0, ↓x_il_2, ↓c_120, ↓c_119, ↓x_ne0, ↓x_ir, ↓gr_142_14, ↓x_imul, ↓x_iadd, ↓ld_149, ↓n_178, ↓s_178_0, ↓s_178_30, ↓s_178_32, ↓bk_v, ↓bk_n, ↓bk_r, ↓pv_i, ↓pv_r, ↓pv_0, ↓pv_l, wz_pk, wz_ti, wz_wz, vI_wz, wz_id, wz_0, List.length_cons, List.length_nil, ↓reduceIte, true_and, and_true, Int.reduceLE, Int.reduceLT, Int.reduceEq, not_true_eq_false, not_false_eq_true, false_or, or_false, true_or, or_true, ite_not, Int.reduceNeg, Int32.reduceToInt, Nat.reduceAdd, Nat.reduceLeDiff, Nat.reduceLT, Nat.reduceEqDiff, Int.reduceAdd, Int.reduceSub, Int.reduceMul, Nat.zero_le, pk_po_ne, pk_po_eq, pk_po_ix, rI, ne_eq, h2, if_true]
      rw [g]
      grind
    · simp (disch := omega) only [↓x_al_0, ↓x_c, ↓pi_142_0, ↓x_il_1, ↓c_166, ↓x_eq0, ↓x_il_2, ↓c_120, ↓c_119, ↓x_ne0, ↓x_ir, ↓gr_142_14, ↓x_imul, ↓x_iadd, ↓ld_149, ↓n_178, ↓s_178_0, ↓s_178_30, ↓s_178_32, ↓bk_v, ↓bk_n, ↓bk_r, ↓pv_i, ↓pv_r, ↓pv_0, ↓pv_l, wz_pk, wz_ti, wz_wz, vI_wz, wz_id, wz_0, List.length_cons, List.length_nil, ↓reduceIte, true_and, and_true, Int.reduceLE, Int.reduceLT, Int.reduceEq, not_true_eq_false, not_false_eq_true, false_or, or_false, true_or, or_true, ite_not, Int.reduceNeg, Int32.reduceToInt, Nat.reduceAdd, Nat.reduceLeDiff, Nat.reduceLT, Nat.reduceEqDiff, Int.reduceAdd, Int.reduceSub, Int.reduceMul, Nat.zero_le, pk_po_ne, pk_po_eq, pk_po_ix, rI, ne_eq, h2, if_false]
      exact hP.no 2 (by decide) (by rw [o_income, if_pos h, if_neg h2]) (hR0.ref (by decide)) hF0.rfM (rfM_t rfl)
  · rw [if_neg h]
    exact hP.no 1 (by decide) (by rw [o_income, if_neg h]) (hR0.ref (by decide)) hF0.rfM (rfM_t rfl)
theorem R161 {g : Int} (hR : RR S M) (hI : crs S 78) : CL 161 [.ref 142, vI g] (mkh X s dh dl t M) Q ↔ Q (rI (listedN S (wz g))) (mkh X s dh dl t M) := by
  have h0 := c78_acts hI
  have g1 := hR.c.acts
  have g2 := hR.c.ag
  simp only [↓x_c, ↓x_is_2, ↓x_is_3, ↓x_il_3, ↓x_al_0, ↓gi_142_49, ↓x_ge, ↓x_il_2, ↓gr_142_43, ↓x_imul, ↓x_iadd, ↓x_il_1, ↓x_ne, ↓x_go, ↓x_inc_3, ↓x_ir, ↓ld_161, ↓n_161, ↓s_161_0, ↓s_161_31, ↓s_161_32, ↓s_161_40, ↓pv_i, ↓pv_r, ↓pv_0, ↓pv_l, wz_pk, wz_ti, wz_wz, vI_wz, wz_id, wz_0, List.length_cons, List.length_nil, ↓reduceIte, true_and, and_true, Int.reduceLE, Int.reduceLT, Int.reduceEq, not_true_eq_false, not_false_eq_true, false_or, or_false, true_or, or_true, ite_not, Int.reduceNeg, Int32.reduceToInt, Nat.reduceAdd, Nat.reduceLeDiff, Nat.reduceLT, Nat.reduceEqDiff, Int.reduceAdd, Int.reduceSub, Int.reduceMul, Nat.zero_le, pk_po_ne, pk_po_eq, pk_po_ix, rI, ne_eq]
  refine lp (n := (S 78 0).toNat) (fun i => EX 161 (sx 161 4) [.ref 142, vI g, vI (sm (fun i => if S 80 i = wz g then 1 else 0) i), vI i] [] (mkh X s dh dl t M) Q ↔ _) ?_ ?_
  · rw [s_161_4]
    have e1 : S 78 0 ≤ (S 78 0).toNat := by omega
    simp (disch := omega) only [↓x_c, ↓x_is_2, ↓x_is_3, ↓x_il_3, ↓x_al_0, ↓gi_142_49, ↓x_ge, ↓x_il_2, ↓gr_142_43, ↓x_imul, ↓x_iadd, ↓x_il_1, ↓x_ne, ↓x_go, ↓x_inc_3, ↓x_ir, ↓ld_161, ↓n_161, ↓s_161_0, ↓s_161_31, ↓s_161_32, ↓s_161_40, ↓pv_i, ↓pv_r, ↓pv_0, ↓pv_l, wz_pk, wz_ti, wz_wz, vI_wz, wz_id, wz_0, List.length_cons, List.length_nil, ↓reduceIte, true_and, and_true, Int.reduceLE, Int.reduceLT, Int.reduceEq, not_true_eq_false, not_false_eq_true, false_or, or_false, true_or, or_true, ite_not, Int.reduceNeg, Int32.reduceToInt, Nat.reduceAdd, Nat.reduceLeDiff, Nat.reduceLT, Nat.reduceEqDiff, Int.reduceAdd, Int.reduceSub, Int.reduceMul, Nat.zero_le, pk_po_ne, pk_po_eq, pk_po_ix, rI, ne_eq, g1, e1, if_true]
    rfl
  · intro i hi ih
    have g3 := g2 i (by omega) (by omega)
    have e1 : ¬ S 78 0 ≤ i := by omega
    have e2 : 4 * (i : Int) + 1 < 96 := by omega
    have e3 : 0 ≤ 4 * (i : Int) + 1 := by omega
    simp only [sm] at ih
    clear g2
    rw [s_161_4]
    simp (disch := omega) only [↓x_c, ↓x_is_2, ↓x_is_3, ↓x_il_3, ↓x_al_0, ↓gi_142_49, ↓x_ge, ↓x_il_2, ↓gr_142_43, ↓x_imul, ↓x_iadd, ↓x_il_1, ↓x_ne, ↓x_go, ↓x_inc_3, ↓x_ir, ↓ld_161, ↓n_161, ↓s_161_0, ↓s_161_31, ↓s_161_40, ↓pv_i, ↓pv_r, ↓pv_0, ↓pv_l, wz_pk, wz_ti, wz_wz, vI_wz, wz_id, wz_0, List.length_cons, List.length_nil, ↓reduceIte, true_and, and_true, Int.reduceLE, Int.reduceLT, Int.reduceEq, not_true_eq_false, not_false_eq_true, false_or, or_false, true_or, or_true, ite_not, Int.reduceNeg, Int32.reduceToInt, Nat.reduceAdd, Nat.reduceLeDiff, Nat.reduceLT, Nat.reduceEqDiff, Int.reduceAdd, Int.reduceSub, Int.reduceMul, Nat.zero_le, pk_po_ne, pk_po_eq, pk_po_ix, rI, ne_eq, g1, e1, e2, e3, if_false, g3, wz_of g3, mrg]
    (try simp (disch := omega) only [↓x_c, ↓x_is_2, ↓x_is_3, ↓x_il_3, ↓x_al_0, ↓gi_142_49, ↓x_ge, ↓x_il_2, ↓gr_142_43, ↓x_imul, ↓x_iadd, ↓x_il_1, ↓x_ne, ↓x_go, ↓x_inc_3, ↓x_ir, ↓ld_161, ↓n_161, ↓s_161_0, ↓s_161_31, ↓s_161_32, ↓s_161_40, ↓pv_i, ↓pv_r, ↓pv_0, ↓pv_l, wz_pk, wz_ti, wz_wz, vI_wz, wz_id, wz_0, List.length_cons, List.length_nil, ↓reduceIte, true_and, and_true, Int.reduceLE, Int.reduceLT, Int.reduceEq, not_true_eq_false, not_false_eq_true, false_or, or_false, true_or, or_true, ite_not, Int.reduceNeg, Int32.reduceToInt, Nat.reduceAdd, Nat.reduceLeDiff, Nat.reduceLT, Nat.reduceEqDiff, Int.reduceAdd, Int.reduceSub, Int.reduceMul, Nat.zero_le, pk_po_ne, pk_po_eq, pk_po_ix, rI, ne_eq, g1, e1, e2, e3, if_false, g3, wz_of g3, mrg])
    grind
theorem R165 {k : Int} (hR : RR S M) (h1 : -1 ≤ k) (h2 : k ≤ 3) : CL 165 [.ref 142, vI k] (mkh X s dh dl t M) Q ↔ Q (rI (feesTo S k)) (mkh X s dh dl t M) := by
  have g1 := hR.h.fee
  simp only [↓x_c, ↓x_is_2, ↓x_is_3, ↓x_il_3, ↓x_il_1, ↓x_gt, ↓x_il_2, ↓x_al_0, ↓gr_142_17, ↓x_iadd, ↓x_inc_3, ↓x_go, ↓x_ir, ↓ld_152, ↓n_165, ↓s_165_0, ↓s_165_24, ↓pv_i, ↓pv_r, ↓pv_0, ↓pv_l, wz_pk, wz_ti, wz_wz, vI_wz, wz_id, wz_0, List.length_cons, List.length_nil, ↓reduceIte, true_and, and_true, Int.reduceLE, Int.reduceLT, Int.reduceEq, not_true_eq_false, not_false_eq_true, false_or, or_false, true_or, or_true, ite_not, Int.reduceNeg, Int32.reduceToInt, Nat.reduceAdd, Nat.reduceLeDiff, Nat.reduceLT, Nat.reduceEqDiff, Int.reduceAdd, Int.reduceSub, Int.reduceMul, Nat.zero_le, pk_po_ne, pk_po_eq, pk_po_ix, rI, ne_eq]
  refine lp (n := (k + 1).toNat) (fun i => EX 165 (sx 165 4) [.ref 142, vI k, vI (sm (fun j => S 32 j) i), vI i] [] (mkh X s dh dl t M) Q ↔ _) ?_ ?_
  · rw [s_165_4]
    have e1 : k < ((k + 1).toNat : Int) := by omega
    simp (disch := omega) only [↓x_c, ↓x_is_2, ↓x_is_3, ↓x_il_3, ↓x_il_1, ↓x_gt, ↓x_il_2, ↓x_al_0, ↓gr_142_17, ↓x_iadd, ↓x_inc_3, ↓x_go, ↓x_ir, ↓ld_152, ↓n_165, ↓s_165_0, ↓s_165_24, ↓pv_i, ↓pv_r, ↓pv_0, ↓pv_l, wz_pk, wz_ti, wz_wz, vI_wz, wz_id, wz_0, List.length_cons, List.length_nil, ↓reduceIte, true_and, and_true, Int.reduceLE, Int.reduceLT, Int.reduceEq, not_true_eq_false, not_false_eq_true, false_or, or_false, true_or, or_true, ite_not, Int.reduceNeg, Int32.reduceToInt, Nat.reduceAdd, Nat.reduceLeDiff, Nat.reduceLT, Nat.reduceEqDiff, Int.reduceAdd, Int.reduceSub, Int.reduceMul, Nat.zero_le, pk_po_ne, pk_po_eq, pk_po_ix, rI, ne_eq, e1, if_true]
    rfl
  · intro i hi ih
    have g2 := g1 i (by omega) (by omega)
    have e1 : ¬ k < i := by omega
    have e2 : (i : Int) < 4 := by omega
    have e3 : 0 ≤ (i : Int) := by omega
    simp only [sm] at ih
    rw [s_165_4]
    simp (disch := omega) only [↓x_c, ↓x_is_2, ↓x_is_3, ↓x_il_3, ↓x_il_1, ↓x_gt, ↓x_il_2, ↓x_al_0, ↓gr_142_17, ↓x_iadd, ↓x_inc_3, ↓x_go, ↓x_ir, ↓ld_152, ↓n_165, ↓s_165_0, ↓s_165_24, ↓pv_i, ↓pv_r, ↓pv_0, ↓pv_l, wz_pk, wz_ti, wz_wz, vI_wz, wz_id, wz_0, List.length_cons, List.length_nil, ↓reduceIte, true_and, and_true, Int.reduceLE, Int.reduceLT, Int.reduceEq, not_true_eq_false, not_false_eq_true, false_or, or_false, true_or, or_true, ite_not, Int.reduceNeg, Int32.reduceToInt, Nat.reduceAdd, Nat.reduceLeDiff, Nat.reduceLT, Nat.reduceEqDiff, Int.reduceAdd, Int.reduceSub, Int.reduceMul, Nat.zero_le, pk_po_ne, pk_po_eq, pk_po_ix, rI, ne_eq, e1, e2, e3, if_false, g2]
    exact ih
theorem R172 {g p : Int} (hR : RR S M) (hI : crs S 78) (hH : hou S) : CL 172 [.ref 142, vI g, vI p] (mkh X s dh dl t M) Q ↔ Q (rI (bi (isFor S (wz g) (wz p)))) (mkh X s dh dl t M) := by
  have h0 := c78_acts hI
  have h1 := c78_ad hI
  have n1 := hH.nd
  have g1 := hR.c.acts
  have g2 := hR.c.ag
  have g3 := hR.c.ad
  have g4 := hR.h.dbt
  simp only [↓x_c, ↓x_is_3, ↓x_il_3, ↓x_al_0, ↓gi_142_49, ↓x_ge, ↓gr_142_43, ↓x_imul, ↓x_iadd, ↓x_il_1, ↓x_ne, ↓gr_142_16, ↓x_il_2, ↓x_irz, ↓x_inc_3, ↓x_go, ↓ld_151, ↓ld_161, ↓n_172, ↓s_172_0, ↓s_172_45, ↓s_172_51, ↓pv_i, ↓pv_r, ↓pv_0, ↓pv_l, wz_pk, wz_ti, wz_wz, vI_wz, wz_id, wz_0, List.length_cons, List.length_nil, ↓reduceIte, true_and, and_true, Int.reduceLE, Int.reduceLT, Int.reduceEq, not_true_eq_false, not_false_eq_true, false_or, or_false, true_or, or_true, ite_not, Int.reduceNeg, Int32.reduceToInt, Nat.reduceAdd, Nat.reduceLeDiff, Nat.reduceLT, Nat.reduceEqDiff, Int.reduceAdd, Int.reduceSub, Int.reduceMul, Nat.zero_le, pk_po_ne, pk_po_eq, pk_po_ix, rI, ne_eq]
  refine lp (n := (S 78 0).toNat) (fun i => exb (fun i => decide (S 80 i = wz g ∧ S 29 (S 79 i) = wz p)) i = false → (EX 172 (sx 172 2) [.ref 142, vI g, vI p, vI i] [] (mkh X s dh dl t M) Q ↔ _)) ?_ ?_ rfl
  · intro hx
    rw [s_172_2]
    have e1 : S 78 0 ≤ (S 78 0).toNat := by omega
    have e2 : isFor S (wz g) (wz p) = false := hx
    rw [e2]
    simp (disch := omega) only [↓x_c, ↓x_is_3, ↓x_il_3, ↓x_al_0, ↓gi_142_49, ↓x_ge, ↓gr_142_43, ↓x_imul, ↓x_iadd, ↓x_il_1, ↓x_ne, ↓gr_142_16, ↓x_il_2, ↓x_irz, ↓x_inc_3, ↓x_go, ↓ld_151, ↓ld_161, ↓n_172, ↓s_172_0, ↓s_172_45, ↓s_172_51, ↓pv_i, ↓pv_r, ↓pv_0, ↓pv_l, wz_pk, wz_ti, wz_wz, vI_wz, wz_id, wz_0, List.length_cons, List.length_nil, ↓reduceIte, true_and, and_true, Int.reduceLE, Int.reduceLT, Int.reduceEq, not_true_eq_false, not_false_eq_true, false_or, or_false, true_or, or_true, ite_not, Int.reduceNeg, Int32.reduceToInt, Nat.reduceAdd, Nat.reduceLeDiff, Nat.reduceLT, Nat.reduceEqDiff, Int.reduceAdd, Int.reduceSub, Int.reduceMul, Nat.zero_le, pk_po_ne, pk_po_eq, pk_po_ix, rI, ne_eq, g1, e1, if_true]
    rfl
  · intro i hi ih hx
    have a1 := h1 i (by omega) (by omega)
    have a2 := g2 i (by omega) (by omega)
    have a3 := g3 i (by omega) (by omega)
    have a4 := g4 (S 79 i) a1.1 a1.2
    have e1 : ¬ S 78 0 ≤ i := by omega
    have e2 : 4 * (i : Int) + 1 < 96 := by omega
    have e3 : 0 ≤ 4 * (i : Int) + 1 := by omega
    have e4 : 4 * (i : Int) < 96 := by omega
    have e5 : 0 ≤ 4 * (i : Int) := by omega
    have e6 : 3 * S 79 i < 18 := by omega
    have e7 : 0 ≤ 3 * S 79 i := by omega
    have hex := @exb_of (fun i => decide (S 80 i = wz g ∧ S 29 (S 79 i) = wz p)) i
    clear h1 g2 g3 g4
    rw [s_172_2]
    simp (disch := omega) only [↓x_c, ↓x_is_3, ↓x_il_3, ↓x_al_0, ↓gi_142_49, ↓x_ge, ↓gr_142_43, ↓x_imul, ↓x_iadd, ↓x_il_1, ↓x_ne, ↓gr_142_16, ↓x_il_2, ↓x_irz, ↓x_inc_3, ↓x_go, ↓ld_151, ↓ld_161, ↓n_172, ↓s_172_0, ↓s_172_45, ↓s_172_51, ↓pv_i, ↓pv_r, ↓pv_0, ↓pv_l, wz_pk, wz_ti, wz_wz, vI_wz, wz_id, wz_0, List.length_cons, List.length_nil, ↓reduceIte, true_and, and_true, Int.reduceLE, Int.reduceLT, Int.reduceEq, not_true_eq_false, not_false_eq_true, false_or, or_false, true_or, or_true, ite_not, Int.reduceNeg, Int32.reduceToInt, Nat.reduceAdd, Nat.reduceLeDiff, Nat.reduceLT, Nat.reduceEqDiff, Int.reduceAdd, Int.reduceSub, Int.reduceMul, Nat.zero_le, pk_po_ne, pk_po_eq, pk_po_ix, rI, ne_eq, g1, e1, e2, e3, e4, e5, if_false, a2, a3, wz_of a2, wz_of a3, e6, e7, a4, wz_of a4]
    grind [exb, isFor, bi]
theorem R170 {g p x : Int} (hR : RR S M) (hH : hou S) (hg : 0 ≤ g ∧ g < S 3 1) (hp : 0 ≤ p ∧ p < S 3 0) (hx : 0 ≤ x ∧ x ≤ 9999) : CL 170 [.ref 142, vI g, vI p, vI x] (mkh X s dh dl t M) Q ↔ Q (rI (share S g p x)) (mkh X s dh dl t M) := by
  have n1 := hH.ng
  have n2 := hH.np
  have g1 := hR.h.np
  have g2 := hR.h.own g hg.1 hg.2
  have g3 := fun q a b => hR.h.tw g q hg.1 hg.2 a b
  have o1 := hH.own g hg.1 hg.2
  have e1 : 9 * g < 108 := by omega
  have e2 : 0 ≤ 9 * g := by omega
  have cutq : ∀ q, 0 ≤ q → q < 4 → 9 * g + 5 + q < 108 ∧ 0 ≤ 9 * g + 5 + q ∧ pk M 150 (9 * g + 5 + q) = S 14 (4 * g + q) ∧ wz (x * S 14 (4 * g + q)) = x * S 14 (4 * g + q) ∧ Int.tdiv (x * S 14 (4 * g + q)) 12 = cut S g q x := fun q a b => by
    have h1 := tw_rng hH hg (p := q) ⟨a, b⟩ hx
    exact ⟨by omega, by omega, g3 q a b, wz_id (by omega) (by omega), Int.tdiv_eq_ediv_of_nonneg h1.1⟩
  by_cases c1 : S 11 g = p
  · have key : EX 170 (sx 170 42) [.ref 142, vI g, vI p, vI x, vI (9 * g), vI (x - sm (fun o => if o = p then 0 else cut S g o x) (0 : Nat)), vI ((0 : Nat) : Int)] [] (mkh X s dh dl t M) Q ↔ Q (rI (share S g p x)) (mkh X s dh dl t M) := by
      refine lp (n := (S 3 0).toNat) (fun i => EX 170 (sx 170 42) [.ref 142, vI g, vI p, vI x, vI (9 * g), vI (x - sm (fun o => if o = p then 0 else cut S g o x) i), vI (i : Int)] [] (mkh X s dh dl t M) Q ↔ _) ?_ ?_
      · have e3 : S 3 0 ≤ (S 3 0).toNat := by omega
        have es : share S g p x = x - sm (fun o => if o = p then 0 else cut S g o x) (S 3 0).toNat := by rw [share, if_neg (by simp [c1])]
        rw [es, s_170_42]
        simp (disch := omega) only [↓x_c, ↓x_il_1, ↓x_imul, ↓x_is_4, ↓x_al_0, ↓gr_142_15, ↓x_il_4, ↓x_iadd, ↓x_il_2, ↓x_eq, ↓x_il_3, ↓x_idiv, ↓x_ir, ↓x_is_5, ↓x_is_6, ↓x_il_6, ↓gi_142_21, ↓x_ge, ↓x_il_5, ↓x_ne, ↓x_go, ↓x_isub, ↓x_inc_6, ↓ld_150, ↓n_170, ↓s_170_0, ↓s_170_36, ↓s_170_63, ↓s_170_80, ↓s_170_89, ↓pv_i, ↓pv_r, ↓pv_0, ↓pv_l, wz_pk, wz_ti, wz_wz, vI_wz, wz_id, wz_0, List.length_cons, List.length_nil, ↓reduceIte, true_and, and_true, Int.reduceLE, Int.reduceLT, Int.reduceEq, not_true_eq_false, not_false_eq_true, false_or, or_false, true_or, or_true, ite_not, Int.reduceNeg, Int32.reduceToInt, Nat.reduceAdd, Nat.reduceLeDiff, Nat.reduceLT, Nat.reduceEqDiff, Int.reduceAdd, Int.reduceSub, Int.reduceMul, Nat.zero_le, pk_po_ne, pk_po_eq, pk_po_ix, rI, ne_eq, g1, e3, if_true]
      · intro i hi ih
        obtain ⟨u1, u2, u3, u4, u5⟩ := cutq i (by omega) (by omega)
        have e3 : ¬ S 3 0 ≤ i := by omega
        simp only [sm] at ih
        rw [s_170_42]
        by_cases c2 : (i : Int) = p
        · rw [if_pos c2, Int.add_zero] at ih
          have wp : wz p = p := wz_id (by omega) (by omega)
          rw [c2] at e3
          simp (disch := omega) only [↓x_c, ↓x_il_1, ↓x_imul, ↓x_is_4, ↓x_al_0, ↓gr_142_15, ↓x_il_4, ↓x_iadd, ↓x_il_2, ↓x_eq, ↓x_il_3, ↓x_idiv, ↓x_ir, ↓x_is_5, ↓x_is_6, ↓x_il_6, ↓gi_142_21, ↓x_ge, ↓x_il_5, ↓x_ne, ↓x_go, ↓x_isub, ↓x_inc_6, ↓ld_150, ↓n_170, ↓s_170_0, ↓s_170_36, ↓s_170_63, ↓s_170_80, ↓s_170_89, ↓pv_i, ↓pv_r, ↓pv_0, ↓pv_l, wz_pk, wz_ti, wz_wz, vI_wz, wz_id, wz_0, List.length_cons, List.length_nil, ↓reduceIte, true_and, and_true, Int.reduceLE, Int.reduceLT, Int.reduceEq, not_true_eq_false, not_false_eq_true, false_or, or_false, true_or, or_true, ite_not, Int.reduceNeg, Int32.reduceToInt, Nat.reduceAdd, Nat.reduceLeDiff, Nat.reduceLT, Nat.reduceEqDiff, Int.reduceAdd, Int.reduceSub, Int.reduceMul, Nat.zero_le, pk_po_ne, pk_po_eq, pk_po_ix, rI, ne_eq, g1, e3, if_false, c2, wp, if_true, Int.sub_zero]
          rw [show ((i + 1 : Nat) : Int) = p + 1 by omega] at ih
          exact ih
        · rw [if_neg c2] at ih
          have e4 : x - sm (fun o => if o = p then 0 else cut S g o x) i - cut S g i x = x - (sm (fun o => if o = p then 0 else cut S g o x) i + cut S g i x) := by omega
          simp (disch := omega) only [↓x_c, ↓x_il_1, ↓x_imul, ↓x_is_4, ↓x_al_0, ↓gr_142_15, ↓x_il_4, ↓x_iadd, ↓x_il_2, ↓x_eq, ↓x_il_3, ↓x_idiv, ↓x_ir, ↓x_is_5, ↓x_is_6, ↓x_il_6, ↓gi_142_21, ↓x_ge, ↓x_il_5, ↓x_ne, ↓x_go, ↓x_isub, ↓x_inc_6, ↓ld_150, ↓n_170, ↓s_170_0, ↓s_170_36, ↓s_170_63, ↓s_170_80, ↓s_170_89, ↓pv_i, ↓pv_r, ↓pv_0, ↓pv_l, wz_pk, wz_ti, wz_wz, vI_wz, wz_id, wz_0, List.length_cons, List.length_nil, ↓reduceIte, true_and, and_true, Int.reduceLE, Int.reduceLT, Int.reduceEq, not_true_eq_false, not_false_eq_true, false_or, or_false, true_or, or_true, ite_not, Int.reduceNeg, Int32.reduceToInt, Nat.reduceAdd, Nat.reduceLeDiff, Nat.reduceLT, Nat.reduceEqDiff, Int.reduceAdd, Int.reduceSub, Int.reduceMul, Nat.zero_le, pk_po_ne, pk_po_eq, pk_po_ix, rI, ne_eq, g1, e3, if_false, c2, u1, u2, u3, u4, u5, e4]
          exact ih
    simp only [sm, Int.sub_zero] at key
    simp (disch := omega) only [↓x_c, ↓x_il_1, ↓x_imul, ↓x_is_4, ↓x_al_0, ↓gr_142_15, ↓x_il_4, ↓x_iadd, ↓x_il_2, ↓x_eq, ↓x_il_3, ↓x_idiv, ↓x_ir, ↓x_is_5, ↓x_is_6, ↓x_il_6, ↓gi_142_21, ↓x_ge, ↓x_il_5, ↓x_ne, ↓x_go, ↓x_isub, ↓x_inc_6, ↓ld_150, ↓n_170, ↓s_170_0, ↓s_170_36, ↓s_170_63, ↓s_170_80, ↓s_170_89, ↓pv_i, ↓pv_r, ↓pv_0, ↓pv_l, wz_pk, wz_ti, wz_wz, vI_wz, wz_id, wz_0, List.length_cons, List.length_nil, ↓reduceIte, true_and, and_true, Int.reduceLE, Int.reduceLT, Int.reduceEq, not_true_eq_false, not_false_eq_true, false_or, or_false, true_or, or_true, ite_not, Int.reduceNeg, Int32.reduceToInt, Nat.reduceAdd, Nat.reduceLeDiff, Nat.reduceLT, Nat.reduceEqDiff, Int.reduceAdd, Int.reduceSub, Int.reduceMul, Nat.zero_le, pk_po_ne, pk_po_eq, pk_po_ix, rI, ne_eq, Int.add_zero, e1, e2, g2, c1, if_true]
    exact key
  · obtain ⟨u1, u2, u3, u4, u5⟩ := cutq p hp.1 (by omega)
    have es : share S g p x = cut S g p x := by rw [share, if_pos (fun h => c1 h.symm)]
    rw [es]
    simp (disch := omega) only [↓x_c, ↓x_il_1, ↓x_imul, ↓x_is_4, ↓x_al_0, ↓gr_142_15, ↓x_il_4, ↓x_iadd, ↓x_il_2, ↓x_eq, ↓x_il_3, ↓x_idiv, ↓x_ir, ↓x_is_5, ↓x_is_6, ↓x_il_6, ↓gi_142_21, ↓x_ge, ↓x_il_5, ↓x_ne, ↓x_go, ↓x_isub, ↓x_inc_6, ↓ld_150, ↓n_170, ↓s_170_0, ↓s_170_36, ↓s_170_63, ↓s_170_80, ↓s_170_89, ↓pv_i, ↓pv_r, ↓pv_0, ↓pv_l, wz_pk, wz_ti, wz_wz, vI_wz, wz_id, wz_0, List.length_cons, List.length_nil, ↓reduceIte, true_and, and_true, Int.reduceLE, Int.reduceLT, Int.reduceEq, not_true_eq_false, not_false_eq_true, false_or, or_false, true_or, or_true, ite_not, Int.reduceNeg, Int32.reduceToInt, Nat.reduceAdd, Nat.reduceLeDiff, Nat.reduceLT, Nat.reduceEqDiff, Int.reduceAdd, Int.reduceSub, Int.reduceMul, Nat.zero_le, pk_po_ne, pk_po_eq, pk_po_ix, rI, ne_eq, Int.add_zero, e1, e2, g2, c1, if_false, u1, u2, u3, u4, u5, wz_of g2]
theorem R173 {p : Int} (hR : RR S M) (hH : hou S) (hI : crs S 78) (hp : 0 ≤ p ∧ p < S 3 0) : CL 173 [.ref 142, vI p] (mkh X s dh dl t M) Q ↔ Q (rI (coin S p)) (mkh X s dh dl t M) := by
  have h1 := hH.ng
  have h2 := hH.np
  have g1 := hR.h.ng
  have g2 := hR.c.sold
  have key : EX 173 (sx 173 4) [.ref 142, vI p, vI (sm (fun g => if ¬ S 83 g = -1 ∧ isFor S g p = true then share S g p (S 83 g) else 0) (0 : Nat)), vI ((0 : Nat) : Int)] [] (mkh X s dh dl t M) Q ↔ Q (rI (coin S p)) (mkh X s dh dl t M) := by
    refine lp (n := (S 3 1).toNat) (fun n => EX 173 (sx 173 4) [.ref 142, vI p, vI (sm (fun g => if ¬ S 83 g = -1 ∧ isFor S g p = true then share S g p (S 83 g) else 0) n), vI n] [] (mkh X s dh dl t M) Q ↔ _) ?_ ?_
    · have e1 : S 3 1 ≤ (S 3 1).toNat := by omega
      rw [s_173_4]
      simp (disch := omega) only [↓x_c, ↓x_is_2, ↓x_is_3, ↓x_il_3, ↓x_al_0, ↓gi_142_22, ↓x_ge, ↓x_il_2, ↓gr_142_45, ↓x_eq, ↓x_il_1, ↓c_172, ↓x_eq0, ↓c_170, ↓x_go, ↓x_iadd, ↓x_inc_3, ↓x_ir, ↓ld_163, ↓n_173, ↓s_173_0, ↓s_173_47, ↓s_173_48, ↓s_173_56, ↓bk_v, ↓bk_n, ↓bk_r, ↓pv_i, ↓pv_r, ↓pv_0, ↓pv_l, wz_pk, wz_ti, wz_wz, vI_wz, wz_id, wz_0, List.length_cons, List.length_nil, ↓reduceIte, true_and, and_true, Int.reduceLE, Int.reduceLT, Int.reduceEq, not_true_eq_false, not_false_eq_true, false_or, or_false, true_or, or_true, ite_not, Int.reduceNeg, Int32.reduceToInt, Nat.reduceAdd, Nat.reduceLeDiff, Nat.reduceLT, Nat.reduceEqDiff, Int.reduceAdd, Int.reduceSub, Int.reduceMul, Nat.zero_le, pk_po_ne, pk_po_eq, pk_po_ix, rI, ne_eq, g1, e1, if_true]
      rfl
    · intro n hn ih
      have e1 : ¬ S 3 1 ≤ n := by omega
      have e2 : (n : Int) < 12 := by omega
      have e3 : (0 : Int) ≤ n := by omega
      have hb := c78_sold hI n e3 e2
      have g3 := g2 n e3 e2
      simp only [sm] at ih
      rw [s_173_4]
      by_cases c1 : S 83 n = -1
      · rw [if_neg (by simp [c1])] at ih
        simp (disch := omega) only [↓x_c, ↓x_is_2, ↓x_is_3, ↓x_il_3, ↓x_al_0, ↓gi_142_22, ↓x_ge, ↓x_il_2, ↓gr_142_45, ↓x_eq, ↓x_il_1, ↓c_172, ↓x_eq0, ↓c_170, ↓x_go, ↓x_iadd, ↓x_inc_3, ↓x_ir, ↓ld_163, ↓n_173, ↓s_173_0, ↓s_173_47, ↓s_173_48, ↓s_173_56, ↓bk_v, ↓bk_n, ↓bk_r, ↓pv_i, ↓pv_r, ↓pv_0, ↓pv_l, wz_pk, wz_ti, wz_wz, vI_wz, wz_id, wz_0, List.length_cons, List.length_nil, ↓reduceIte, true_and, and_true, Int.reduceLE, Int.reduceLT, Int.reduceEq, not_true_eq_false, not_false_eq_true, false_or, or_false, true_or, or_true, ite_not, Int.reduceNeg, Int32.reduceToInt, Nat.reduceAdd, Nat.reduceLeDiff, Nat.reduceLT, Nat.reduceEqDiff, Int.reduceAdd, Int.reduceSub, Int.reduceMul, Nat.zero_le, pk_po_ne, pk_po_eq, pk_po_ix, rI, ne_eq, g1, e1, e2, e3, if_false, g3, c1, if_true]
        exact ih
      · by_cases c2 : isFor S n p = true
        · rw [if_pos ⟨c1, c2⟩] at ih
          simp (disch := omega) only [↓x_c, ↓x_is_2, ↓x_is_3, ↓x_il_3, ↓x_al_0, ↓gi_142_22, ↓x_ge, ↓x_il_2, ↓gr_142_45, ↓x_eq, ↓x_il_1, ↓c_172, ↓x_eq0, ↓c_170, ↓x_go, ↓x_iadd, ↓x_inc_3, ↓x_ir, ↓ld_163, ↓n_173, ↓s_173_0, ↓s_173_47, ↓s_173_48, ↓s_173_56, ↓bk_v, ↓bk_n, ↓bk_r, ↓pv_i, ↓pv_r, ↓pv_0, ↓pv_l, wz_pk, wz_ti, wz_wz, vI_wz, wz_id, wz_0, List.length_cons, List.length_nil, ↓reduceIte, true_and, and_true, Int.reduceLE, Int.reduceLT, Int.reduceEq, not_true_eq_false, not_false_eq_true, false_or, or_false, true_or, or_true, ite_not, Int.reduceNeg, Int32.reduceToInt, Nat.reduceAdd, Nat.reduceLeDiff, Nat.reduceLT, Nat.reduceEqDiff, Int.reduceAdd, Int.reduceSub, Int.reduceMul, Nat.zero_le, pk_po_ne, pk_po_eq, pk_po_ix, rI, ne_eq, g1, e1, e2, e3, if_false, g3, c1, ↓R172 hR hI hH, bi_wz, bi_0, c2, Bool.true_eq_false]
          rw [R170 hR hH ⟨by omega, by omega⟩ hp ⟨by omega, by omega⟩]
          simp (disch := omega) only [↓x_c, ↓x_is_2, ↓x_is_3, ↓x_il_3, ↓x_al_0, ↓gi_142_22, ↓x_ge, ↓x_il_2, ↓gr_142_45, ↓x_eq, ↓x_il_1, ↓c_172, ↓x_eq0, ↓c_170, ↓x_go, ↓x_iadd, ↓x_inc_3, ↓x_ir, ↓ld_163, ↓n_173, ↓s_173_0, ↓s_173_47, ↓s_173_48, ↓s_173_56, ↓bk_v, ↓bk_n, ↓bk_r, ↓pv_i, ↓pv_r, ↓pv_0, ↓pv_l, wz_pk, wz_ti, wz_wz, vI_wz, wz_id, wz_0, List.length_cons, List.length_nil, ↓reduceIte, true_and, and_true, Int.reduceLE, Int.reduceLT, Int.reduceEq, not_true_eq_false, not_false_eq_true, false_or, or_false, true_or, or_true, ite_not, Int.reduceNeg, Int32.reduceToInt, Nat.reduceAdd, Nat.reduceLeDiff, Nat.reduceLT, Nat.reduceEqDiff, Int.reduceAdd, Int.reduceSub, Int.reduceMul, Nat.zero_le, pk_po_ne, pk_po_eq, pk_po_ix, rI, ne_eq]
          exact ih
        · rw [if_neg (by simp [c2])] at ih
          have c2' : isFor S n p = false := by simpa using c2
          simp (disch := omega) only [↓x_c, ↓x_is_2, ↓x_is_3, ↓x_il_3, ↓x_al_0, ↓gi_142_22, ↓x_ge, ↓x_il_2, ↓gr_142_45, ↓x_eq, ↓x_il_1, ↓c_172, ↓x_eq0, ↓c_170, ↓x_go, ↓x_iadd, ↓x_inc_3, ↓x_ir, ↓ld_163, ↓n_173, ↓s_173_0, ↓s_173_47, ↓s_173_48, ↓s_173_56, ↓bk_v, ↓bk_n, ↓bk_r, ↓pv_i, ↓pv_r, ↓pv_0, ↓pv_l, wz_pk, wz_ti, wz_wz, vI_wz, wz_id, wz_0, List.length_cons, List.length_nil, ↓reduceIte, true_and, and_true, Int.reduceLE, Int.reduceLT, Int.reduceEq, not_true_eq_false, not_false_eq_true, false_or, or_false, true_or, or_true, ite_not, Int.reduceNeg, Int32.reduceToInt, Nat.reduceAdd, Nat.reduceLeDiff, Nat.reduceLT, Nat.reduceEqDiff, Int.reduceAdd, Int.reduceSub, Int.reduceMul, Nat.zero_le, pk_po_ne, pk_po_eq, pk_po_ix, rI, ne_eq, g1, e1, e2, e3, if_false, g3, c1, ↓R172 hR hI hH, bi_wz, bi_0, c2', if_true]
          exact ih
  simp only [sm] at key
  simp only [↓x_c, ↓x_is_2, ↓x_is_3, ↓x_il_3, ↓x_al_0, ↓gi_142_22, ↓x_ge, ↓x_il_2, ↓gr_142_45, ↓x_eq, ↓x_il_1, ↓c_172, ↓x_eq0, ↓c_170, ↓x_go, ↓x_iadd, ↓x_inc_3, ↓x_ir, ↓ld_163, ↓n_173, ↓s_173_0, ↓s_173_47, ↓s_173_48, ↓s_173_56, ↓bk_v, ↓bk_n, ↓bk_r, ↓pv_i, ↓pv_r, ↓pv_0, ↓pv_l, wz_pk, wz_ti, wz_wz, vI_wz, wz_id, wz_0, List.length_cons, List.length_nil, ↓reduceIte, true_and, and_true, Int.reduceLE, Int.reduceLT, Int.reduceEq, not_true_eq_false, not_false_eq_true, false_or, or_false, true_or, or_true, ite_not, Int.reduceNeg, Int32.reduceToInt, Nat.reduceAdd, Nat.reduceLeDiff, Nat.reduceLT, Nat.reduceEqDiff, Int.reduceAdd, Int.reduceSub, Int.reduceMul, Nat.zero_le, pk_po_ne, pk_po_eq, pk_po_ix, rI, ne_eq]
  exact key
end R61
