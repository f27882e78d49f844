/-! THE REFERENCE: sell, drawn -/
section R63
variable {Q : MOut → MHp → Prop} {X : Nat × (Nat → Int32)} {s : Bool × Bool} {dh dl t : Nat} {M : Mem} {S : St}
theorem R171 {g x m : Int} (hR : RR S M) (hH : hou S) (hI : crs S 78) (hg : wz g = g) (hx : wz x = x) (hm : wz m = m) (hP : PR X s dh dl t M Q cB (o_sell S g x m)) : CL 171 [.ref 142, vI g, vI x, vI m] (mkh X s dh dl t M) Q := by
  have n1 := hH.ng
  have hR0 := hR.pw (a := 142) (i := 0) (x := 0) rfl
  have hF0 : FR M (po M 142 0 0) := FR.rfl.pw (by decide)
  simp (disch := omega) only [↓x_al_0, ↓x_c, ↓pi_142_0, ↓x_il_1, ↓c_168, ↓x_eq0, ↓x_il_2, ↓c_120, ↓x_il_3, ↓x_go, ↓c_119, ↓x_ne0, ↓x_ir, ↓c_161, ↓gr_142_45, ↓x_ne, ↓gr_142_46, ↓gr_142_15, ↓x_imul, ↓x_iadd, ↓x_gt, ↓x_ge, ↓c_170, ↓ld_150, ↓st_150, ↓ld_163, ↓st_163, ↓ld_164, ↓st_164, ↓n_171, ↓s_171_0, ↓s_171_41, ↓s_171_50, ↓s_171_52, ↓s_171_80, ↓s_171_83, ↓s_171_108, ↓s_171_127, ↓bk_v, ↓bk_n, ↓bk_r, ↓pv_i, ↓pv_r, ↓pv_0, ↓pv_l, wz_pk, wz_ti, wz_wz, vI_wz, wz_id, wz_0, List.length_cons, List.length_nil, ↓reduceIte, true_and, and_true, Int.reduceLE, Int.reduceLT, Int.reduceEq, not_true_eq_false, not_false_eq_true, false_or, or_false, true_or, or_true, ite_not, Int.reduceNeg, Int32.reduceToInt, Nat.reduceAdd, Nat.reduceLeDiff, Nat.reduceLT, Nat.reduceEqDiff, Int.reduceAdd, Int.reduceSub, Int.reduceMul, Nat.zero_le, pk_po_ne, pk_po_eq, pk_po_ix, rI, ne_eq, ↓R168 (c := 1) hR0 hH hg th0 rfl (by decide), ↓R120, hm, hx, bi_wz, bi_0, decide_eq_false_iff_not, mrg]
  (try simp (disch := omega) only [↓x_al_0, ↓x_c, ↓pi_142_0, ↓x_il_1, ↓c_168, ↓x_eq0, ↓x_il_2, ↓c_120, ↓x_il_3, ↓x_go, ↓c_119, ↓x_ne0, ↓x_ir, ↓c_161, ↓gr_142_45, ↓x_ne, ↓gr_142_46, ↓gr_142_15, ↓x_imul, ↓x_iadd, ↓x_gt, ↓x_ge, ↓c_170, ↓ld_150, ↓st_150, ↓ld_163, ↓st_163, ↓ld_164, ↓st_164, ↓n_171, ↓s_171_0, ↓s_171_41, ↓s_171_42, ↓s_171_50, ↓s_171_52, ↓s_171_80, ↓s_171_83, ↓s_171_108, ↓s_171_127, ↓bk_v, ↓bk_n, ↓bk_r, ↓pv_i, ↓pv_r, ↓pv_0, ↓pv_l, wz_pk, wz_ti, wz_wz, vI_wz, wz_id, wz_0, List.length_cons, List.length_nil, ↓reduceIte, true_and, and_true, Int.reduceLE, Int.reduceLT, Int.reduceEq, not_true_eq_false, not_false_eq_true, false_or, or_false, true_or, or_true, ite_not, Int.reduceNeg, Int32.reduceToInt, Nat.reduceAdd, Nat.reduceLeDiff, Nat.reduceLT, Nat.reduceEqDiff, Int.reduceAdd, Int.reduceSub, Int.reduceMul, Nat.zero_le, pk_po_ne, pk_po_eq, pk_po_ix, rI, ne_eq, ↓R168 (c := 1) hR0 hH hg th0 rfl (by decide), ↓R120, hm, hx, bi_wz, bi_0, decide_eq_false_iff_not, mrg])
  by_cases h : 0 ≤ g ∧ g < S 3 1
  · rw [if_pos h]
    by_cases h2 : (0 ≤ x ∧ x ≤ 9999) ∧ (0 ≤ m ∧ m ≤ 9999)
    · rw [if_pos h2.1, if_pos h2.2, R119v (c := 2) (k := 1) th0 rfl (by decide) (by decide), if_neg (by decide)]
      have q1 : g < 12 := by omega
      have q0 : 0 ≤ g := h.1
      have g1 := hR.h.prf g h.1 h.2
      have g2 := hR.h.wor g h.1 h.2
      have g3 := hR.c.sold g h.1 q1
      have g4 := hR.c.given g h.1 q1
      have g5 := hR.h.own g h.1 h.2
      have o5 := hH.own g h.1 h.2
      have o2 := hH.wor g h.1 h.2
      have o3 := c78_sold hI g h.1 q1
      have o4 := c78_given hI g h.1 q1
      have q2 : 9 * g + 4 < 108 := by omega
      have q3 : 0 ≤ 9 * g + 4 := by omega
      have q4 : 9 * g + 1 < 108 := by omega
      have q5 : 0 ≤ 9 * g + 1 := by omega
      have q6 : 9 * g < 108 := by omega
      have q7 : 0 ≤ 9 * g := by omega
      have lr := listedN_rng (S := S) (g := g) hI
      simp (disch := omega) only [↓x_al_0, ↓x_c, ↓pi_142_0, ↓x_il_1, ↓c_168, ↓x_eq0, ↓x_il_2, ↓c_120, ↓x_il_3, ↓x_go, ↓c_119, ↓x_ne0, ↓x_ir, ↓c_161, ↓gr_142_45, ↓x_ne, ↓gr_142_46, ↓gr_142_15, ↓x_imul, ↓x_iadd, ↓x_gt, ↓x_ge, ↓c_170, ↓ld_150, ↓st_150, ↓ld_163, ↓st_163, ↓ld_164, ↓st_164, ↓n_171, ↓s_171_0, ↓s_171_41, ↓s_171_42, ↓s_171_50, ↓s_171_52, ↓s_171_80, ↓s_171_83, ↓s_171_108, ↓s_171_127, ↓bk_v, ↓bk_n, ↓bk_r, ↓pv_i, ↓pv_r, ↓pv_0, ↓pv_l, wz_pk, wz_ti, wz_wz, vI_wz, wz_id, wz_0, List.length_cons, List.length_nil, ↓reduceIte, true_and, and_true, Int.reduceLE, Int.reduceLT, Int.reduceEq, not_true_eq_false, not_false_eq_true, false_or, or_false, true_or, or_true, ite_not, Int.reduceNeg, Int32.reduceToInt, Nat.reduceAdd, Nat.reduceLeDiff, Nat.reduceLT, Nat.reduceEqDiff, Int.reduceAdd, Int.reduceSub, Int.reduceMul, Nat.zero_le, pk_po_ne, pk_po_eq, pk_po_ix, rI, ne_eq, ↓R161 hR0 hI, hg, g3, g4, q0, q1, wz_of g3, wz_of g4]
      by_cases c1 : listedN S g = 0 ∨ gone S g = true
      · have e := hP.ok (by rw [o_sell, if_pos h, if_pos h2, if_pos c1]) hR0 hF0 th0
        have c1' : listedN S g = 0 ∨ ¬ S 83 g = -1 ∨ S 84 g = 1 := by
          unfold gone at c1
          rw [decide_eq_true_eq] at c1
          omega
        grind
      · have c1' : ¬ listedN S g = 0 ∧ S 83 g = -1 ∧ ¬ S 84 g = 1 := by
          unfold gone at c1
          rw [decide_eq_true_eq] at c1
          omega
        by_cases c2 : S 28 g ≤ m
        · have e := hP.ok (M' := po (po M 142 0 0) 164 g 1) (by rw [o_sell, if_pos h, if_pos h2, if_neg c1, if_pos c2]) (hR0.row (n := 12) (by omega) rfl) (hF0.pw (by decide)) (by rw [pk_po_ne (by decide)]; exact th0)
          simp (disch := omega) only [↓x_al_0, ↓x_c, ↓pi_142_0, ↓x_il_1, ↓c_168, ↓x_eq0, ↓x_il_2, ↓c_120, ↓x_il_3, ↓x_go, ↓c_119, ↓x_ne0, ↓x_ir, ↓c_161, ↓gr_142_45, ↓x_ne, ↓gr_142_46, ↓gr_142_15, ↓x_imul, ↓x_iadd, ↓x_gt, ↓x_ge, ↓c_170, ↓ld_150, ↓st_150, ↓ld_163, ↓st_163, ↓ld_164, ↓st_164, ↓n_171, ↓s_171_0, ↓s_171_41, ↓s_171_42, ↓s_171_50, ↓s_171_52, ↓s_171_80, ↓s_171_83, ↓s_171_108, ↓s_171_127, ↓bk_v, ↓bk_n, ↓bk_r, ↓pv_i, ↓pv_r, ↓pv_0, ↓pv_l, wz_pk, wz_ti, wz_wz, vI_wz, wz_id, wz_0, List.length_cons, List.length_nil, ↓reduceIte, true_and, and_true, Int.reduceLE, Int.reduceLT, Int.reduceEq, not_true_eq_false, not_false_eq_true, false_or, or_false, true_or, or_true, ite_not, Int.reduceNeg, Int32.reduceToInt, Nat.reduceAdd, Nat.reduceLeDiff, Nat.reduceLT, Nat.reduceEqDiff, Int.reduceAdd, Int.reduceSub, Int.reduceMul, Nat.zero_le, pk_po_ne, pk_po_eq, pk_po_ix, rI, ne_eq, c1'.1, c1'.2.1, c1'.2.2, g1, q2, q3, wz_of g1, show ¬ m < S 28 g by omega, if_true, if_false]
          exact e
        · by_cases c3 : x < (S 12 g + 1) / 2
          · have e := hP.ok (by rw [o_sell, if_pos h, if_pos h2, if_neg c1, if_neg c2, if_pos c3]) hR0 hF0 th0
            have c3' : 2 * x < S 12 g := by omega
            simp (disch := omega) only [↓x_al_0, ↓x_c, ↓pi_142_0, ↓x_il_1, ↓c_168, ↓x_eq0, ↓x_il_2, ↓c_120, ↓x_il_3, ↓x_go, ↓c_119, ↓x_ne0, ↓x_ir, ↓c_161, ↓gr_142_45, ↓x_ne, ↓gr_142_46, ↓gr_142_15, ↓x_imul, ↓x_iadd, ↓x_gt, ↓x_ge, ↓c_170, ↓ld_150, ↓st_150, ↓ld_163, ↓st_163, ↓ld_164, ↓st_164, ↓n_171, ↓s_171_0, ↓s_171_41, ↓s_171_42, ↓s_171_50, ↓s_171_52, ↓s_171_80, ↓s_171_83, ↓s_171_108, ↓s_171_127, ↓bk_v, ↓bk_n, ↓bk_r, ↓pv_i, ↓pv_r, ↓pv_0, ↓pv_l, wz_pk, wz_ti, wz_wz, vI_wz, wz_id, wz_0, List.length_cons, List.length_nil, ↓reduceIte, true_and, and_true, Int.reduceLE, Int.reduceLT, Int.reduceEq, not_true_eq_false, not_false_eq_true, false_or, or_false, true_or, or_true, ite_not, Int.reduceNeg, Int32.reduceToInt, Nat.reduceAdd, Nat.reduceLeDiff, Nat.reduceLT, Nat.reduceEqDiff, Int.reduceAdd, Int.reduceSub, Int.reduceMul, Nat.zero_le, pk_po_ne, pk_po_eq, pk_po_ix, rI, ne_eq, c1'.1, c1'.2.1, c1'.2.2, g1, q2, q3, wz_of g1, show m < S 28 g by omega, if_true, if_false, g2, wz_of g2, q4, q5, show ¬ S 12 g ≤ 2 * x by omega]
            exact e
          · have hR1 : RR (su S 83 g x) (po (po M 142 0 0) 163 g x) := hR0.row (n := 12) (by omega) hx
            have e := hP.ok (M' := po (po M 142 0 0) 163 g x) (by rw [o_sell, if_pos h, if_pos h2, if_neg c1, if_neg c2, if_neg c3]) hR1 (hF0.pw (by decide)) (by rw [pk_po_ne (by decide)]; exact th0)
            have c3' : ¬ 2 * x < S 12 g := by omega
            have hH1 : hou (su S 83 g x) := hH
            have es : share (su S 83 g x) g (S 11 g) x = share S g (S 11 g) x := rfl
            simp (disch := omega) only [↓x_al_0, ↓x_c, ↓pi_142_0, ↓x_il_1, ↓c_168, ↓x_eq0, ↓x_il_2, ↓c_120, ↓x_il_3, ↓x_go, ↓c_119, ↓x_ne0, ↓x_ir, ↓c_161, ↓gr_142_45, ↓x_ne, ↓gr_142_46, ↓gr_142_15, ↓x_imul, ↓x_iadd, ↓x_gt, ↓x_ge, ↓c_170, ↓ld_150, ↓st_150, ↓ld_163, ↓st_163, ↓ld_164, ↓st_164, ↓n_171, ↓s_171_0, ↓s_171_41, ↓s_171_42, ↓s_171_50, ↓s_171_52, ↓s_171_80, ↓s_171_83, ↓s_171_108, ↓s_171_127, ↓bk_v, ↓bk_n, ↓bk_r, ↓pv_i, ↓pv_r, ↓pv_0, ↓pv_l, wz_pk, wz_ti, wz_wz, vI_wz, wz_id, wz_0, List.length_cons, List.length_nil, ↓reduceIte, true_and, and_true, Int.reduceLE, Int.reduceLT, Int.reduceEq, not_true_eq_false, not_false_eq_true, false_or, or_false, true_or, or_true, ite_not, Int.reduceNeg, Int32.reduceToInt, Nat.reduceAdd, Nat.reduceLeDiff, Nat.reduceLT, Nat.reduceEqDiff, Int.reduceAdd, Int.reduceSub, Int.reduceMul, Nat.zero_le, pk_po_ne, pk_po_eq, pk_po_ix, rI, ne_eq, c1'.1, c1'.2.1, c1'.2.2, g1, q2, q3, wz_of g1, show m < S 28 g by omega, if_true, if_false, g2, wz_of g2, q4, q5, show S 12 g ≤ 2 * x by omega, q6, q7, g5, Int.add_zero]
            rw [R170 hR1 hH1 h o5 h2.1, es]
            simp (disch := omega) only [↓x_al_0, ↓x_c, ↓pi_142_0, ↓x_il_1, ↓c_168, ↓x_eq0, ↓x_il_2, ↓c_120, ↓x_il_3, ↓x_go, ↓c_119, ↓x_ne0, ↓x_ir, ↓c_161, ↓gr_142_45, ↓x_ne, ↓gr_142_46, ↓gr_142_15, ↓x_imul, ↓x_iadd, ↓x_gt, ↓x_ge, ↓c_170, ↓ld_150, ↓st_150, ↓ld_163, ↓st_163, ↓ld_164, ↓st_164, ↓n_171, ↓s_171_0, ↓s_171_41, ↓s_171_42, ↓s_171_50, ↓s_171_52, ↓s_171_80, ↓s_171_83, ↓s_171_108, ↓s_171_127, ↓bk_v, ↓bk_n, ↓bk_r, ↓pv_i, ↓pv_r, ↓pv_0, ↓pv_l, wz_pk, wz_ti, wz_wz, vI_wz, wz_id, wz_0, List.length_cons, List.length_nil, ↓reduceIte, true_and, and_true, Int.reduceLE, Int.reduceLT, Int.reduceEq, not_true_eq_false, not_false_eq_true, false_or, or_false, true_or, or_true, ite_not, Int.reduceNeg, Int32.reduceToInt, Nat.reduceAdd, Nat.reduceLeDiff, Nat.reduceLT, Nat.reduceEqDiff, Int.reduceAdd, Int.reduceSub, Int.reduceMul, Nat.zero_le, pk_po_ne, pk_po_eq, pk_po_ix, rI, ne_eq]
            exact e
    · have e0 : (if 0 ≤ x ∧ x ≤ 9999 then if 0 ≤ m ∧ m ≤ 9999 then (1 : Int) else 0 else 0) = 0 := by
        split
        · split
          · exfalso; exact h2 ⟨‹_›, ‹_›⟩
          · rfl
        · rfl
      rw [e0, R119v (c := 2) (k := 1) th0 rfl (by decide) (by decide), if_pos wz_0]
      simp (disch := omega) only [↓x_al_0, ↓x_c, ↓pi_142_0, ↓x_il_1, ↓c_168, ↓x_eq0, ↓x_il_2, ↓c_120, ↓x_il_3, ↓x_go, ↓c_119, ↓x_ne0, ↓x_ir, ↓c_161, ↓gr_142_45, ↓x_ne, ↓gr_142_46, ↓gr_142_15, ↓x_imul, ↓x_iadd, ↓x_gt, ↓x_ge, ↓c_170, ↓ld_150, ↓st_150, ↓ld_163, ↓st_163, ↓ld_164, ↓st_164, ↓n_171, ↓s_171_0, ↓s_171_41, ↓s_171_42, ↓s_171_50, ↓s_171_52, ↓s_171_80, ↓s_171_83, ↓s_171_108, ↓s_171_127, ↓bk_v, ↓bk_n, ↓bk_r, ↓pv_i, ↓pv_r, ↓pv_0, ↓pv_l, wz_pk, wz_ti, wz_wz, vI_wz, wz_id, wz_0, List.length_cons, List.length_nil, ↓reduceIte, true_and, and_true, Int.reduceLE, Int.reduceLT, Int.reduceEq, not_true_eq_false, not_false_eq_true, false_or, or_false, true_or, or_true, ite_not, Int.reduceNeg, Int32.reduceToInt, Nat.reduceAdd, Nat.reduceLeDiff, Nat.reduceLT, Nat.reduceEqDiff, Int.reduceAdd, Int.reduceSub, Int.reduceMul, Nat.zero_le, pk_po_ne, pk_po_eq, pk_po_ix, rI, ne_eq]
      exact hP.no 2 (by decide) (by rw [o_sell, if_pos h, if_neg h2]) (hR0.ref (by decide)) hF0.rfM (rfM_t rfl)
  · rw [if_neg h]
    exact hP.no 1 (by decide) (by rw [o_sell, if_neg h]) (hR0.ref (by decide)) hF0.rfM (rfM_t rfl)
theorem sshr_and {y m : BitVec 32} {k : Nat} (hk : k < 32) (hm : m.toNat < 2 ^ (32 - k)) : y.sshiftRight k &&& m = y >>> k &&& m := by
  apply BitVec.eq_of_getLsbD_eq
  intro i hi
  rw [BitVec.getLsbD_and, BitVec.getLsbD_and, BitVec.getLsbD_sshiftRight, BitVec.getLsbD_ushiftRight]
  by_cases h : k + i < 32
  · have h1 : ¬ 32 ≤ i := by omega
    simp [h, h1]
  · have e : m.getLsbD i = false := by
      show m.toNat.testBit i = false
      apply Nat.testBit_lt_two_pow
      exact Nat.lt_of_lt_of_le hm (Nat.pow_le_pow_right (by decide) (by omega))
    rw [e]
    simp
theorem ishr_and16 (x : Int) : iand (ishr x 16) 7 = iand (iush x 16) 7 := by
  unfold iand ishr iush
  rw [Int32.ofInt_toInt, Int32.ofInt_toInt]
  congr 1
  apply Int32.toBitVec_inj.mp
  generalize Int32.ofInt x = y
  exact sshr_and (y := y.toBitVec) (m := 7#32) (k := 16) (by decide) (by decide)
theorem ishr_and8 (x : Int) : iand (ishr x 8) 255 = iand (iush x 8) 255 := by
  unfold iand ishr iush
  rw [Int32.ofInt_toInt, Int32.ofInt_toInt]
  congr 1
  apply Int32.toBitVec_inj.mp
  generalize Int32.ofInt x = y
  exact sshr_and (y := y.toBitVec) (m := 255#32) (k := 8) (by decide) (by decide)
theorem ishr_and16b (x : Int) : iand (ishr x 16) 255 = iand (iush x 16) 255 := by
  unfold iand ishr iush
  rw [Int32.ofInt_toInt, Int32.ofInt_toInt]
  congr 1
  apply Int32.toBitVec_inj.mp
  generalize Int32.ofInt x = y
  exact sshr_and (y := y.toBitVec) (m := 255#32) (k := 16) (by decide) (by decide)
theorem ishr_and24 (x : Int) : iand (ishr x 24) 255 = iand (iush x 24) 255 := by
  unfold iand ishr iush
  rw [Int32.ofInt_toInt, Int32.ofInt_toInt]
  congr 1
  apply Int32.toBitVec_inj.mp
  generalize Int32.ofInt x = y
  exact sshr_and (y := y.toBitVec) (m := 255#32) (k := 24) (by decide) (by decide)
theorem ishr_and0 (x : Int) : iand (ishr x 0) 255 = iand (iush x 0) 255 := by
  unfold iand ishr iush
  rw [Int32.ofInt_toInt, Int32.ofInt_toInt]
  congr 1
  apply Int32.toBitVec_inj.mp
  generalize Int32.ofInt x = y
  exact sshr_and (y := y.toBitVec) (m := 255#32) (k := 0) (by decide) (by decide)
theorem R193 {p x w : Int} (hR : RR S M) (hH : hou S) (hI : crs S 78) (hp : wz p = p) (hx : wz x = x) (hw : wz w = w) (hP : PR X s dh dl t M Q cB (o_drawn S p x w)) : CL 193 [.ref 142, vI p, vI x, vI w] (mkh X s dh dl t M) Q := by
  have n1 := hH.ng
  have n2 := hH.np
  have hR0 := hR.pw (a := 142) (i := 0) (x := 0) rfl
  have hF0 : FR M (po M 142 0 0) := FR.rfl.pw (by decide)
  simp (disch := omega) only [↓x_al_0, ↓x_c, ↓pi_142_0, ↓x_il_1, ↓c_166, ↓x_eq0, ↓x_il_3, ↓c_120, ↓c_119, ↓x_ne0, ↓x_ir, ↓x_il_2, ↓x_is_4, ↓x_is_5, ↓x_is_6, ↓x_is_7, ↓x_is_8, ↓x_is_9, ↓x_il_9, ↓gi_142_22, ↓x_ge, ↓c_161, ↓gr_142_45, ↓x_ne, ↓gr_142_46, ↓x_go, ↓gr_142_15, ↓x_imul, ↓x_iadd, ↓gr_142_43, ↓gi_142_49, ↓x_isub, ↓x_gt, ↓x_inc_7, ↓x_il_4, ↓x_ishr, ↓x_iand, ↓x_idiv, ↓x_is_10, ↓x_il_10, ↓x_inc_6, ↓x_il_5, ↓x_il_8, ↓c_172, ↓c_170, ↓x_inc_9, ↓x_il_6, ↓x_il_7, ↓ld_150, ↓ld_161, ↓ld_163, ↓ld_164, ↓n_193, ↓s_193_0, ↓s_193_29, ↓s_193_31, ↓s_193_92, ↓s_193_126, ↓s_193_191, ↓s_193_222, ↓s_193_223, ↓s_193_226, ↓s_193_232, ↓s_193_241, ↓s_193_251, ↓s_193_261, ↓s_193_263, ↓bk_v, ↓bk_n, ↓bk_r, ↓pv_i, ↓pv_r, ↓pv_0, ↓pv_l, wz_pk, wz_ti, wz_wz, vI_wz, wz_id, wz_0, List.length_cons, List.length_nil, ↓reduceIte, true_and, and_true, Int.reduceLE, Int.reduceLT, Int.reduceEq, not_true_eq_false, not_false_eq_true, false_or, or_false, true_or, or_true, ite_not, Int.reduceNeg, Int32.reduceToInt, Nat.reduceAdd, Nat.reduceLeDiff, Nat.reduceLT, Nat.reduceEqDiff, Int.reduceAdd, Int.reduceSub, Int.reduceMul, Nat.zero_le, pk_po_ne, pk_po_eq, pk_po_ix, rI, ne_eq, ↓R166 (c := 1) hR0 hH hp th0 rfl (by decide), ↓R120, ↓R119 (M := po M 142 0 0) (c := 2) (k := 1) th0 rfl (by decide) (by decide), hp, hw, hx, decide_eq_true_eq]
  by_cases h : 0 ≤ p ∧ p < S 3 0
  · rw [if_pos h]
    by_cases h2 : 0 ≤ w ∧ w ≤ 3
    · rw [if_pos h2]
      have e := hP.ok (by rw [o_drawn, if_pos h, if_pos h2]) hR0 hF0 th0
      have g1 := hR.h.ng
      have gA := hR.c.acts
      have iA := c78_acts hI
      have hlm : 0 ≤ lastMin S ∧ lastMin S ≤ 9999 := by
        have a1 := c78_acts hI
        have a2 := c78_am hI (S 78 0 - 1)
        unfold lastMin
        split <;> omega
      have key : ∀ bb, EX 193 (sx 193 49) [.ref 142, vI p, vI x, vI w, vI (drS S p x (lastMin S) (0 : Nat)).1, vI (drS S p x (lastMin S) (0 : Nat)).2.1, vI (drS S p x (lastMin S) (0 : Nat)).2.2.1, vI (drS S p x (lastMin S) (0 : Nat)).2.2.2.1, vI (drS S p x (lastMin S) (0 : Nat)).2.2.2.2, vI ((0 : Nat) : Int), bb] [] (mkh X s dh dl t (po M 142 0 0)) Q := by
        refine lp (n := (S 3 1).toNat) (fun n => ∀ bb, EX 193 (sx 193 49) [.ref 142, vI p, vI x, vI w, vI (drS S p x (lastMin S) n).1, vI (drS S p x (lastMin S) n).2.1, vI (drS S p x (lastMin S) n).2.2.1, vI (drS S p x (lastMin S) n).2.2.2.1, vI (drS S p x (lastMin S) n).2.2.2.2, vI (n : Int), bb] [] (mkh X s dh dl t (po M 142 0 0)) Q) ?_ ?_
        · intro bb
          have e1 : S 3 1 ≤ (S 3 1).toNat := by omega
          rw [s_193_49]
          simp (disch := omega) only [↓x_al_0, ↓x_c, ↓pi_142_0, ↓x_il_1, ↓c_166, ↓x_eq0, ↓x_il_3, ↓c_120, ↓c_119, ↓x_ne0, ↓x_ir, ↓x_il_2, ↓x_is_4, ↓x_is_5, ↓x_is_6, ↓x_is_7, ↓x_is_8, ↓x_is_9, ↓x_il_9, ↓gi_142_22, ↓x_ge, ↓c_161, ↓gr_142_45, ↓x_ne, ↓gr_142_46, ↓x_go, ↓gr_142_15, ↓x_imul, ↓x_iadd, ↓gr_142_43, ↓gi_142_49, ↓x_isub, ↓x_gt, ↓x_inc_7, ↓x_il_4, ↓x_ishr, ↓x_iand, ↓x_idiv, ↓x_is_10, ↓x_il_10, ↓x_inc_6, ↓x_il_5, ↓x_il_8, ↓c_172, ↓c_170, ↓x_inc_9, ↓x_il_6, ↓x_il_7, ↓ld_150, ↓ld_161, ↓ld_163, ↓ld_164, ↓n_193, ↓s_193_0, ↓s_193_29, ↓s_193_31, ↓s_193_92, ↓s_193_126, ↓s_193_191, ↓s_193_222, ↓s_193_223, ↓s_193_226, ↓s_193_232, ↓s_193_241, ↓s_193_251, ↓s_193_261, ↓s_193_263, ↓bk_v, ↓bk_n, ↓bk_r, ↓pv_i, ↓pv_r, ↓pv_0, ↓pv_l, wz_pk, wz_ti, wz_wz, vI_wz, wz_id, wz_0, List.length_cons, List.length_nil, ↓reduceIte, true_and, and_true, Int.reduceLE, Int.reduceLT, Int.reduceEq, not_true_eq_false, not_false_eq_true, false_or, or_false, true_or, or_true, ite_not, Int.reduceNeg, Int32.reduceToInt, Nat.reduceAdd, Nat.reduceLeDiff, Nat.reduceLT, Nat.reduceEqDiff, Int.reduceAdd, Int.reduceSub, Int.reduceMul, Nat.zero_le, pk_po_ne, pk_po_eq, pk_po_ix, rI, ne_eq, g1, e1, if_true, hw]
          grind
        · intro n hn ih bb
          have e1 : ¬ S 3 1 ≤ n := by omega
          have e2 : (n : Int) < 12 := by omega
          have e3 : (0 : Int) ≤ n := by omega
          have hl := listedN_rng (g := n) hI
          have hr := drS_rng (x0 := x) (m := lastMin S) hH h n (by omega)
          have hw2 := hH.wor n (by omega) (by omega)
          have hpr := price_rng (x := lcg (drS S p x (lastMin S) n).1) hw2.1 hw2.2
          have hsh := share_rng hH (g := n) ⟨by omega, by omega⟩ h (x := S 12 n * (2 + drw (lcg (drS S p x (lastMin S) n).1)) / 8) ⟨by omega, by omega⟩
          have v1 := hR.h.prf n (by omega) (by omega)
          have v2 := hR.h.wor n (by omega) (by omega)
          have v3 := hR.c.sold n (by omega) (by omega)
          have v4 := hR.c.given n (by omega) (by omega)
          have u3 := c78_sold hI n (by omega) (by omega)
          have u4 := c78_given hI n (by omega) (by omega)
          have j2 : 9 * (n : Int) + 4 < 108 := by omega
          have j3 : 0 ≤ 9 * (n : Int) + 4 := by omega
          have j4 : 9 * (n : Int) + 1 < 108 := by omega
          have j5 : 0 ≤ 9 * (n : Int) + 1 := by omega
          simp only [drS] at ih
          generalize hq : drS S p x (lastMin S) n = q at *
          obtain ⟨q1, q2, q3, q4, q5⟩ := q
          simp only at *
          rw [s_193_49]
          by_cases c1 : listedN S n = 0
          · rw [if_pos (Or.inl c1)] at ih
            simp (disch := omega) only [↓x_al_0, ↓x_c, ↓pi_142_0, ↓x_il_1, ↓c_166, ↓x_eq0, ↓x_il_3, ↓c_120, ↓c_119, ↓x_ne0, ↓x_ir, ↓x_il_2, ↓x_is_4, ↓x_is_5, ↓x_is_6, ↓x_is_7, ↓x_is_8, ↓x_is_9, ↓x_il_9, ↓gi_142_22, ↓x_ge, ↓c_161, ↓gr_142_45, ↓x_ne, ↓gr_142_46, ↓x_go, ↓gr_142_15, ↓x_imul, ↓x_iadd, ↓gr_142_43, ↓gi_142_49, ↓x_isub, ↓x_gt, ↓x_inc_7, ↓x_il_4, ↓x_ishr, ↓x_iand, ↓x_idiv, ↓x_is_10, ↓x_il_10, ↓x_inc_6, ↓x_il_5, ↓x_il_8, ↓c_172, ↓c_170, ↓x_inc_9, ↓x_il_6, ↓x_il_7, ↓ld_150, ↓ld_161, ↓ld_163, ↓ld_164, ↓n_193, ↓s_193_0, ↓s_193_29, ↓s_193_31, ↓s_193_92, ↓s_193_126, ↓s_193_191, ↓s_193_222, ↓s_193_223, ↓s_193_226, ↓s_193_232, ↓s_193_241, ↓s_193_251, ↓s_193_261, ↓s_193_263, ↓bk_v, ↓bk_n, ↓bk_r, ↓pv_i, ↓pv_r, ↓pv_0, ↓pv_l, wz_pk, wz_ti, wz_wz, vI_wz, wz_id, wz_0, List.length_cons, List.length_nil, ↓reduceIte, true_and, and_true, Int.reduceLE, Int.reduceLT, Int.reduceEq, not_true_eq_false, not_false_eq_true, false_or, or_false, true_or, or_true, ite_not, Int.reduceNeg, Int32.reduceToInt, Nat.reduceAdd, Nat.reduceLeDiff, Nat.reduceLT, Nat.reduceEqDiff, Int.reduceAdd, Int.reduceSub, Int.reduceMul, Nat.zero_le, pk_po_ne, pk_po_eq, pk_po_ix, rI, ne_eq, g1, e1, if_false, ↓R161 hR0 hI, c1, if_true]
            exact ih bb
          · have e0 : wz (listedN S n) = listedN S n := wz_id (by omega) (by omega)
            have z1 : 0 < S 78 0 := by
              unfold listedN at c1
              by_cases z : 0 < S 78 0
              · exact z
              · rw [show (S 78 0).toNat = 0 by omega] at c1
                exact absurd rfl c1
            have z2 : pk M 161 (4 * S 78 0 - 2) = lastMin S := by
              have := hR.c.am (S 78 0 - 1) (by omega) (by omega)
              rw [show 4 * (S 78 0 - 1) + 2 = 4 * S 78 0 - 2 by omega] at this
              rw [this, lastMin, if_pos z1]
            have z3 : 0 ≤ 4 * S 78 0 - 2 := by omega
            have z4 : 4 * S 78 0 - 2 < 96 := by omega
            by_cases c2 : gone S n = true
            · rw [if_pos (Or.inr c2)] at ih
              have c2' : ¬ S 83 n = -1 ∨ S 84 n = 1 := by
                unfold gone at c2
                rw [decide_eq_true_eq] at c2
                omega
              have ih' := ih bb
              clear ih
              by_cases c3 : S 83 n = -1
              · have c4 : S 84 n = 1 := by omega
                simp (disch := omega) only [↓x_al_0, ↓x_c, ↓pi_142_0, ↓x_il_1, ↓c_166, ↓x_eq0, ↓x_il_3, ↓c_120, ↓c_119, ↓x_ne0, ↓x_ir, ↓x_il_2, ↓x_is_4, ↓x_is_5, ↓x_is_6, ↓x_is_7, ↓x_is_8, ↓x_is_9, ↓x_il_9, ↓gi_142_22, ↓x_ge, ↓c_161, ↓gr_142_45, ↓x_ne, ↓gr_142_46, ↓x_go, ↓gr_142_15, ↓x_imul, ↓x_iadd, ↓gr_142_43, ↓gi_142_49, ↓x_isub, ↓x_gt, ↓x_inc_7, ↓x_il_4, ↓x_ishr, ↓x_iand, ↓x_idiv, ↓x_is_10, ↓x_il_10, ↓x_inc_6, ↓x_il_5, ↓x_il_8, ↓c_172, ↓c_170, ↓x_inc_9, ↓x_il_6, ↓x_il_7, ↓ld_150, ↓ld_161, ↓ld_163, ↓ld_164, ↓n_193, ↓s_193_0, ↓s_193_29, ↓s_193_31, ↓s_193_92, ↓s_193_126, ↓s_193_191, ↓s_193_222, ↓s_193_223, ↓s_193_226, ↓s_193_232, ↓s_193_241, ↓s_193_251, ↓s_193_261, ↓s_193_263, ↓bk_v, ↓bk_n, ↓bk_r, ↓pv_i, ↓pv_r, ↓pv_0, ↓pv_l, wz_pk, wz_ti, wz_wz, vI_wz, wz_id, wz_0, List.length_cons, List.length_nil, ↓reduceIte, true_and, and_true, Int.reduceLE, Int.reduceLT, Int.reduceEq, not_true_eq_false, not_false_eq_true, false_or, or_false, true_or, or_true, ite_not, Int.reduceNeg, Int32.reduceToInt, Nat.reduceAdd, Nat.reduceLeDiff, Nat.reduceLT, Nat.reduceEqDiff, Int.reduceAdd, Int.reduceSub, Int.reduceMul, Nat.zero_le, pk_po_ne, pk_po_eq, pk_po_ix, rI, ne_eq, g1, e1, e2, e3, if_false, ↓R161 hR0 hI, e0, c1, v3, v4, c3, c4, if_true]
                exact ih'
              · simp (disch := omega) only [↓x_al_0, ↓x_c, ↓pi_142_0, ↓x_il_1, ↓c_166, ↓x_eq0, ↓x_il_3, ↓c_120, ↓c_119, ↓x_ne0, ↓x_ir, ↓x_il_2, ↓x_is_4, ↓x_is_5, ↓x_is_6, ↓x_is_7, ↓x_is_8, ↓x_is_9, ↓x_il_9, ↓gi_142_22, ↓x_ge, ↓c_161, ↓gr_142_45, ↓x_ne, ↓gr_142_46, ↓x_go, ↓gr_142_15, ↓x_imul, ↓x_iadd, ↓gr_142_43, ↓gi_142_49, ↓x_isub, ↓x_gt, ↓x_inc_7, ↓x_il_4, ↓x_ishr, ↓x_iand, ↓x_idiv, ↓x_is_10, ↓x_il_10, ↓x_inc_6, ↓x_il_5, ↓x_il_8, ↓c_172, ↓c_170, ↓x_inc_9, ↓x_il_6, ↓x_il_7, ↓ld_150, ↓ld_161, ↓ld_163, ↓ld_164, ↓n_193, ↓s_193_0, ↓s_193_29, ↓s_193_31, ↓s_193_92, ↓s_193_126, ↓s_193_191, ↓s_193_222, ↓s_193_223, ↓s_193_226, ↓s_193_232, ↓s_193_241, ↓s_193_251, ↓s_193_261, ↓s_193_263, ↓bk_v, ↓bk_n, ↓bk_r, ↓pv_i, ↓pv_r, ↓pv_0, ↓pv_l, wz_pk, wz_ti, wz_wz, vI_wz, wz_id, wz_0, List.length_cons, List.length_nil, ↓reduceIte, true_and, and_true, Int.reduceLE, Int.reduceLT, Int.reduceEq, not_true_eq_false, not_false_eq_true, false_or, or_false, true_or, or_true, ite_not, Int.reduceNeg, Int32.reduceToInt, Nat.reduceAdd, Nat.reduceLeDiff, Nat.reduceLT, Nat.reduceEqDiff, Int.reduceAdd, Int.reduceSub, Int.reduceMul, Nat.zero_le, pk_po_ne, pk_po_eq, pk_po_ix, rI, ne_eq, g1, e1, e2, e3, if_false, ↓R161 hR0 hI, e0, c1, v3, v4, c3, if_true]
                exact ih'
            · rw [if_neg (by simp [c1, c2])] at ih
              have c2' : S 83 n = -1 ∧ ¬ S 84 n = 1 := by
                unfold gone at c2
                rw [decide_eq_true_eq] at c2
                omega
              by_cases c3 : S 28 n ≤ lastMin S
              · rw [if_pos c3] at ih
                simp (disch := omega) only [↓x_al_0, ↓x_c, ↓pi_142_0, ↓x_il_1, ↓c_166, ↓x_eq0, ↓x_il_3, ↓c_120, ↓c_119, ↓x_ne0, ↓x_ir, ↓x_il_2, ↓x_is_4, ↓x_is_5, ↓x_is_6, ↓x_is_7, ↓x_is_8, ↓x_is_9, ↓x_il_9, ↓gi_142_22, ↓x_ge, ↓c_161, ↓gr_142_45, ↓x_ne, ↓gr_142_46, ↓x_go, ↓gr_142_15, ↓x_imul, ↓x_iadd, ↓gr_142_43, ↓gi_142_49, ↓x_isub, ↓x_gt, ↓x_inc_7, ↓x_il_4, ↓x_ishr, ↓x_iand, ↓x_idiv, ↓x_is_10, ↓x_il_10, ↓x_inc_6, ↓x_il_5, ↓x_il_8, ↓c_172, ↓c_170, ↓x_inc_9, ↓x_il_6, ↓x_il_7, ↓ld_150, ↓ld_161, ↓ld_163, ↓ld_164, ↓n_193, ↓s_193_0, ↓s_193_29, ↓s_193_31, ↓s_193_92, ↓s_193_126, ↓s_193_191, ↓s_193_222, ↓s_193_223, ↓s_193_226, ↓s_193_232, ↓s_193_241, ↓s_193_251, ↓s_193_261, ↓s_193_263, ↓bk_v, ↓bk_n, ↓bk_r, ↓pv_i, ↓pv_r, ↓pv_0, ↓pv_l, wz_pk, wz_ti, wz_wz, vI_wz, wz_id, wz_0, List.length_cons, List.length_nil, ↓reduceIte, true_and, and_true, Int.reduceLE, Int.reduceLT, Int.reduceEq, not_true_eq_false, not_false_eq_true, false_or, or_false, true_or, or_true, ite_not, Int.reduceNeg, Int32.reduceToInt, Nat.reduceAdd, Nat.reduceLeDiff, Nat.reduceLT, Nat.reduceEqDiff, Int.reduceAdd, Int.reduceSub, Int.reduceMul, Nat.zero_le, pk_po_ne, pk_po_eq, pk_po_ix, rI, ne_eq, g1, gA, e1, e2, e3, if_false, ↓R161 hR0 hI, e0, c1, v3, v4, c2'.1, c2'.2, if_true, v1, z2, z3, z4, j2, j3, j4, j5, wz_of v1, wz_of v2, show ¬ lastMin S < S 28 n by omega]
                exact ih bb
              · rw [if_neg c3] at ih
                have e5 : ∀ y, wz (lcg y) = lcg y := fun y => wz_wz
                have e6 : iand (ishr (q1 * 1103515245 + 12345) 16) 7 = drw (lcg q1) := by rw [ishr_and16]; unfold drw lcg iush; rw [oi_wz]
                have e7 : wz (S 12 n * (2 + drw (lcg q1))) = S 12 n * (2 + drw (lcg q1)) := wz_id (by omega) (by omega)
                have e8 : Int.tdiv (S 12 n * (2 + drw (lcg q1))) 8 = S 12 n * (2 + drw (lcg q1)) / 8 := Int.tdiv_eq_ediv_of_nonneg (by omega)
                have e10 : vI (q1 * 1103515245 + 12345) = vI (lcg q1) := vI_wz.symm
                by_cases c4 : S 12 n * (2 + drw (lcg q1)) / 8 < (S 12 n + 1) / 2
                · rw [if_pos c4] at ih
                  have c4n : ¬ S 12 n ≤ 2 * (S 12 n * (2 + drw (lcg q1)) / 8) := by omega
                  simp (disch := omega) only [↓x_al_0, ↓x_c, ↓pi_142_0, ↓x_il_1, ↓c_166, ↓x_eq0, ↓x_il_3, ↓c_120, ↓c_119, ↓x_ne0, ↓x_ir, ↓x_il_2, ↓x_is_4, ↓x_is_5, ↓x_is_6, ↓x_is_7, ↓x_is_8, ↓x_is_9, ↓x_il_9, ↓gi_142_22, ↓x_ge, ↓c_161, ↓gr_142_45, ↓x_ne, ↓gr_142_46, ↓x_go, ↓gr_142_15, ↓x_imul, ↓x_iadd, ↓gr_142_43, ↓gi_142_49, ↓x_isub, ↓x_gt, ↓x_inc_7, ↓x_il_4, ↓x_ishr, ↓x_iand, ↓x_idiv, ↓x_is_10, ↓x_il_10, ↓x_inc_6, ↓x_il_5, ↓x_il_8, ↓c_172, ↓c_170, ↓x_inc_9, ↓x_il_6, ↓x_il_7, ↓ld_150, ↓ld_161, ↓ld_163, ↓ld_164, ↓n_193, ↓s_193_0, ↓s_193_29, ↓s_193_31, ↓s_193_92, ↓s_193_126, ↓s_193_191, ↓s_193_222, ↓s_193_223, ↓s_193_226, ↓s_193_232, ↓s_193_241, ↓s_193_251, ↓s_193_261, ↓s_193_263, ↓bk_v, ↓bk_n, ↓bk_r, ↓pv_i, ↓pv_r, ↓pv_0, ↓pv_l, wz_pk, wz_ti, wz_wz, vI_wz, wz_id, wz_0, List.length_cons, List.length_nil, ↓reduceIte, true_and, and_true, Int.reduceLE, Int.reduceLT, Int.reduceEq, not_true_eq_false, not_false_eq_true, false_or, or_false, true_or, or_true, ite_not, Int.reduceNeg, Int32.reduceToInt, Nat.reduceAdd, Nat.reduceLeDiff, Nat.reduceLT, Nat.reduceEqDiff, Int.reduceAdd, Int.reduceSub, Int.reduceMul, Nat.zero_le, pk_po_ne, pk_po_eq, pk_po_ix, rI, ne_eq, g1, gA, e1, e2, e3, if_false, ↓R161 hR0 hI, e0, c1, v3, v4, c2'.1, c2'.2, if_true, v1, v2, z2, z3, z4, j2, j3, j4, j5, wz_of v1, wz_of v2, show lastMin S < S 28 n by omega, e6, e7, e8, e10, c4n]
                  exact ih _
                · rw [if_neg c4] at ih
                  have c4n : S 12 n ≤ 2 * (S 12 n * (2 + drw (lcg q1)) / 8) := by omega
                  by_cases c5 : isFor S n p = true
                  · rw [if_pos c5] at ih
                    simp (disch := omega) only [↓x_al_0, ↓x_c, ↓pi_142_0, ↓x_il_1, ↓c_166, ↓x_eq0, ↓x_il_3, ↓c_120, ↓c_119, ↓x_ne0, ↓x_ir, ↓x_il_2, ↓x_is_4, ↓x_is_5, ↓x_is_6, ↓x_is_7, ↓x_is_8, ↓x_is_9, ↓x_il_9, ↓gi_142_22, ↓x_ge, ↓c_161, ↓gr_142_45, ↓x_ne, ↓gr_142_46, ↓x_go, ↓gr_142_15, ↓x_imul, ↓x_iadd, ↓gr_142_43, ↓gi_142_49, ↓x_isub, ↓x_gt, ↓x_inc_7, ↓x_il_4, ↓x_ishr, ↓x_iand, ↓x_idiv, ↓x_is_10, ↓x_il_10, ↓x_inc_6, ↓x_il_5, ↓x_il_8, ↓c_172, ↓c_170, ↓x_inc_9, ↓x_il_6, ↓x_il_7, ↓ld_150, ↓ld_161, ↓ld_163, ↓ld_164, ↓n_193, ↓s_193_0, ↓s_193_29, ↓s_193_31, ↓s_193_92, ↓s_193_126, ↓s_193_191, ↓s_193_222, ↓s_193_223, ↓s_193_226, ↓s_193_232, ↓s_193_241, ↓s_193_251, ↓s_193_261, ↓s_193_263, ↓bk_v, ↓bk_n, ↓bk_r, ↓pv_i, ↓pv_r, ↓pv_0, ↓pv_l, wz_pk, wz_ti, wz_wz, vI_wz, wz_id, wz_0, List.length_cons, List.length_nil, ↓reduceIte, true_and, and_true, Int.reduceLE, Int.reduceLT, Int.reduceEq, not_true_eq_false, not_false_eq_true, false_or, or_false, true_or, or_true, ite_not, Int.reduceNeg, Int32.reduceToInt, Nat.reduceAdd, Nat.reduceLeDiff, Nat.reduceLT, Nat.reduceEqDiff, Int.reduceAdd, Int.reduceSub, Int.reduceMul, Nat.zero_le, pk_po_ne, pk_po_eq, pk_po_ix, rI, ne_eq, g1, gA, e1, e2, e3, if_false, ↓R161 hR0 hI, e0, c1, v3, v4, c2'.1, c2'.2, if_true, v1, v2, z2, z3, z4, j2, j3, j4, j5, wz_of v1, wz_of v2, show lastMin S < S 28 n by omega, e6, e7, e8, e10, c4n, ↓R172 hR0 hI hH, bi_wz, bi_0, c5, Bool.true_eq_false]
                    rw [R170 hR0 hH ⟨by omega, by omega⟩ h ⟨by omega, by omega⟩]
                    simp (disch := omega) only [↓x_al_0, ↓x_c, ↓pi_142_0, ↓x_il_1, ↓c_166, ↓x_eq0, ↓x_il_3, ↓c_120, ↓c_119, ↓x_ne0, ↓x_ir, ↓x_il_2, ↓x_is_4, ↓x_is_5, ↓x_is_6, ↓x_is_7, ↓x_is_8, ↓x_is_9, ↓x_il_9, ↓gi_142_22, ↓x_ge, ↓c_161, ↓gr_142_45, ↓x_ne, ↓gr_142_46, ↓x_go, ↓gr_142_15, ↓x_imul, ↓x_iadd, ↓gr_142_43, ↓gi_142_49, ↓x_isub, ↓x_gt, ↓x_inc_7, ↓x_il_4, ↓x_ishr, ↓x_iand, ↓x_idiv, ↓x_is_10, ↓x_il_10, ↓x_inc_6, ↓x_il_5, ↓x_il_8, ↓c_172, ↓c_170, ↓x_inc_9, ↓x_il_6, ↓x_il_7, ↓ld_150, ↓ld_161, ↓ld_163, ↓ld_164, ↓n_193, ↓s_193_0, ↓s_193_29, ↓s_193_31, ↓s_193_92, ↓s_193_126, ↓s_193_191, ↓s_193_222, ↓s_193_223, ↓s_193_226, ↓s_193_232, ↓s_193_241, ↓s_193_251, ↓s_193_261, ↓s_193_263, ↓bk_v, ↓bk_n, ↓bk_r, ↓pv_i, ↓pv_r, ↓pv_0, ↓pv_l, wz_pk, wz_ti, wz_wz, vI_wz, wz_id, wz_0, List.length_cons, List.length_nil, ↓reduceIte, true_and, and_true, Int.reduceLE, Int.reduceLT, Int.reduceEq, not_true_eq_false, not_false_eq_true, false_or, or_false, true_or, or_true, ite_not, Int.reduceNeg, Int32.reduceToInt, Nat.reduceAdd, Nat.reduceLeDiff, Nat.reduceLT, Nat.reduceEqDiff, Int.reduceAdd, Int.reduceSub, Int.reduceMul, Nat.zero_le, pk_po_ne, pk_po_eq, pk_po_ix, rI, ne_eq]
                    exact ih _
                  · rw [if_neg c5, Int.add_zero] at ih
                    have c5' : isFor S n p = false := by simpa using c5
                    simp (disch := omega) only [↓x_al_0, ↓x_c, ↓pi_142_0, ↓x_il_1, ↓c_166, ↓x_eq0, ↓x_il_3, ↓c_120, ↓c_119, ↓x_ne0, ↓x_ir, ↓x_il_2, ↓x_is_4, ↓x_is_5, ↓x_is_6, ↓x_is_7, ↓x_is_8, ↓x_is_9, ↓x_il_9, ↓gi_142_22, ↓x_ge, ↓c_161, ↓gr_142_45, ↓x_ne, ↓gr_142_46, ↓x_go, ↓gr_142_15, ↓x_imul, ↓x_iadd, ↓gr_142_43, ↓gi_142_49, ↓x_isub, ↓x_gt, ↓x_inc_7, ↓x_il_4, ↓x_ishr, ↓x_iand, ↓x_idiv, ↓x_is_10, ↓x_il_10, ↓x_inc_6, ↓x_il_5, ↓x_il_8, ↓c_172, ↓c_170, ↓x_inc_9, ↓x_il_6, ↓x_il_7, ↓ld_150, ↓ld_161, ↓ld_163, ↓ld_164, ↓n_193, ↓s_193_0, ↓s_193_29, ↓s_193_31, ↓s_193_92, ↓s_193_126, ↓s_193_191, ↓s_193_222, ↓s_193_223, ↓s_193_226, ↓s_193_232, ↓s_193_241, ↓s_193_251, ↓s_193_261, ↓s_193_263, ↓bk_v, ↓bk_n, ↓bk_r, ↓pv_i, ↓pv_r, ↓pv_0, ↓pv_l, wz_pk, wz_ti, wz_wz, vI_wz, wz_id, wz_0, List.length_cons, List.length_nil, ↓reduceIte, true_and, and_true, Int.reduceLE, Int.reduceLT, Int.reduceEq, not_true_eq_false, not_false_eq_true, false_or, or_false, true_or, or_true, ite_not, Int.reduceNeg, Int32.reduceToInt, Nat.reduceAdd, Nat.reduceLeDiff, Nat.reduceLT, Nat.reduceEqDiff, Int.reduceAdd, Int.reduceSub, Int.reduceMul, Nat.zero_le, pk_po_ne, pk_po_eq, pk_po_ix, rI, ne_eq, g1, gA, e1, e2, e3, if_false, ↓R161 hR0 hI, e0, c1, v3, v4, c2'.1, c2'.2, if_true, v1, v2, z2, z3, z4, j2, j3, j4, j5, wz_of v1, wz_of v2, show lastMin S < S 28 n by omega, e6, e7, e8, e10, c4n, ↓R172 hR0 hI hH, bi_wz, bi_0, c5', Int.add_zero]
                    exact ih _
      exact key .null
    · rw [if_neg h2]
      exact hP.no 2 (by decide) (by rw [o_drawn, if_pos h, if_neg h2]) (hR0.ref (by decide)) hF0.rfM (rfM_t rfl)
  · rw [if_neg h]
    exact hP.no 1 (by decide) (by rw [o_drawn, if_neg h]) (hR0.ref (by decide)) hF0.rfM (rfM_t rfl)
end R63
