section R87
variable {Q : MOut → MHp → Prop} {X : Nat × (Nat → Int32)} {s : Bool × Bool} {dh dl t : Nat} {M : Mem} {S : St} {p n x k : Int} {W : Int → Int}
/-- the law that was read is set -/
theorem R150e {c st : Int} (hc : 0 ≤ c ∧ c ≤ 10) (hs : 0 ≤ st ∧ st ≤ 300) (h32 : pk M 142 32 = st) (hb : pk M 142 5 = -1)
    (hQ : ∀ M', fx [142, 153, 154, 157] M M' → (∀ i, ¬ i = 31 → pk M' 142 i = pk M 142 i) → pk M' 142 31 = c → pk M' 157 0 = 0 → (∀ r, 0 ≤ r → r < c → pk M' 157 (r + 1) = pk M 158 (r + 1)) → (∀ i, 0 ≤ i → i < st → pk M' 153 i = pk M 155 i) → (∀ i, 0 ≤ i → i < st → pk M' 154 i = pk M 156 i) → ∀ b, EX 150 (sx 150 233) [.ref 142, vI n, vI c, b] [] (mkh X s dh dl t M') Q) : ∀ b, EX 150 (sx 150 147) [.ref 142, vI n, vI c, b] [] (mkh X s dh dl t M) Q := by
  intro b
  have wc : wz c = c := wz_id (by omega) (by omega)
  have l2 : ∀ M', fx [142, 153, 154, 157] M M' → (∀ i, ¬ i = 31 → pk M' 142 i = pk M 142 i) → pk M' 142 31 = c → pk M' 157 0 = 0 → (∀ r, 0 ≤ r → r < c → pk M' 157 (r + 1) = pk M 158 (r + 1)) → (∀ i, 0 ≤ i → i < ((0 : Nat) : Int) → pk M' 153 i = pk M 155 i) → (∀ i, 0 ≤ i → i < ((0 : Nat) : Int) → pk M' 154 i = pk M 156 i) → EX 150 (sx 150 195) [.ref 142, vI n, vI c, vI ((0 : Nat) : Int)] [] (mkh X s dh dl t M') Q := by
    refine lp (n := st.toNat) (fun m => ∀ M', fx [142, 153, 154, 157] M M' → (∀ i, ¬ i = 31 → pk M' 142 i = pk M 142 i) → pk M' 142 31 = c → pk M' 157 0 = 0 → (∀ r, 0 ≤ r → r < c → pk M' 157 (r + 1) = pk M 158 (r + 1)) → (∀ i, 0 ≤ i → i < (m : Int) → pk M' 153 i = pk M 155 i) → (∀ i, 0 ≤ i → i < (m : Int) → pk M' 154 i = pk M 156 i) → EX 150 (sx 150 195) [.ref 142, vI n, vI c, vI (m : Int)] [] (mkh X s dh dl t M') Q) ?_ ?_
    · intro M' f1 f2 f3 f4 f5 f6 f7
      have g : pk M' 142 32 = st := by rw [f2 _ (by decide)]; exact h32
      have e1 : st ≤ (st.toNat : Int) := by omega
      have z := hQ M' f1 f2 f3 f4 f5 (fun i u v => f6 i u (by omega)) (fun i u v => f7 i u (by omega)) (vI st.toNat)
      rw [s_150_195]
      simp (disch := omega) only [↓x_al_0, ↓x_c, ↓pi_142_0, ↓x_il_1, ↓x_lt0, ↓gi_142_2, ↓x_gt, ↓x_go, ↓c_119, ↓x_ne0, ↓x_ir, ↓c_134, ↓pi_142_32, ↓x_is_2, ↓c_123, ↓x_eq0, ↓c_133, ↓c_128, ↓x_str, ↓c_129, ↓x_lcw0, ↓x_lcw1, ↓gi_142_4, ↓c_124, ↓x_il_2, ↓x_ne, ↓c_130, ↓c_148, ↓c_132, ↓x_inc_2, ↓gr_142_29, ↓gi_142_32, ↓gi_142_5, ↓pi_142_31, ↓x_is_3, ↓x_il_3, ↓gr_142_28, ↓x_inc_3, ↓x_ge, ↓gr_142_24, ↓gr_142_26, ↓gr_142_25, ↓gr_142_27, ↓gi_142_31, ↓c_135, ↓ld_153, ↓st_153, ↓ld_154, ↓st_154, ↓ld_155, ↓st_155, ↓ld_156, ↓st_156, ↓ld_157, ↓st_157, ↓ld_158, ↓st_158, ↓n_150, ↓s_150_0, ↓s_150_29, ↓s_150_30, ↓s_150_40, ↓s_150_92, ↓s_150_107, ↓s_150_117, ↓s_150_147, ↓s_150_180, ↓s_150_186, ↓s_150_193, ↓bk_v, ↓bk_n, ↓bk_r, ↓pv_i, ↓pv_r, ↓pv_0, ↓pv_l, wz_pk, wz_ti, wz_wz, vI_wz, wz_id, wz_0, List.length_cons, List.length_nil, ↓reduceIte, true_and, and_true, Int.reduceLE, Int.reduceLT, Int.reduceEq, not_true_eq_false, not_false_eq_true, false_or, or_false, true_or, or_true, ite_not, Int.reduceNeg, Int32.reduceToInt, Nat.reduceAdd, Nat.reduceLeDiff, Nat.reduceLT, Nat.reduceEqDiff, Int.reduceAdd, Int.reduceSub, Int.reduceMul, Nat.zero_le, pk_po_ne, pk_po_eq, pk_po_ix, rI, ne_eq, g, wz_of g, e1, if_true]
      exact z
    · intro m hm ih M' f1 f2 f3 f4 f5 f6 f7
      have g : pk M' 142 32 = st := by rw [f2 _ (by decide)]; exact h32
      have e1 : ¬ st ≤ (m : Int) := by omega
      have b1 : (m : Int) < 300 := by omega
      have b2 : 0 ≤ (m : Int) := by omega
      have v1 : pk M' 155 m = pk M 155 m := f1.at (by decide)
      have v2 : pk M' 156 m = pk M 156 m := f1.at (by decide)
      have z := ih (po (po M' 153 m (pk M 155 m)) 154 m (pk M 156 m)) ((f1.pw (by decide)).pw (by decide)) (fun i hi => by rw [pk_po_ne (by decide), pk_po_ne (by decide)]; exact f2 i hi) (by rw [pk_po_ne (by decide), pk_po_ne (by decide)]; exact f3) (by rw [pk_po_ne (by decide), pk_po_ne (by decide)]; exact f4) (fun r u v => by rw [pk_po_ne (by decide), pk_po_ne (by decide)]; exact f5 r u v) (fun i u v => by
        rw [pk_po_ne (by decide)]
        by_cases d : i = m
        · subst d; rw [pk_po_eq]; exact wz_pk
        · rw [pk_po_ix d]; exact f6 i u (by omega)) (fun i u v => by
        by_cases d : i = m
        · subst d; rw [pk_po_eq]; exact wz_pk
        · rw [pk_po_ix d, pk_po_ne (by decide)]; exact f7 i u (by omega))
      rw [s_150_195]
      simp (disch := omega) only [↓x_al_0, ↓x_c, ↓pi_142_0, ↓x_il_1, ↓x_lt0, ↓gi_142_2, ↓x_gt, ↓x_go, ↓c_119, ↓x_ne0, ↓x_ir, ↓c_134, ↓pi_142_32, ↓x_is_2, ↓c_123, ↓x_eq0, ↓c_133, ↓c_128, ↓x_str, ↓c_129, ↓x_lcw0, ↓x_lcw1, ↓gi_142_4, ↓c_124, ↓x_il_2, ↓x_ne, ↓c_130, ↓c_148, ↓c_132, ↓x_inc_2, ↓gr_142_29, ↓gi_142_32, ↓gi_142_5, ↓pi_142_31, ↓x_is_3, ↓x_il_3, ↓gr_142_28, ↓x_inc_3, ↓x_ge, ↓gr_142_24, ↓gr_142_26, ↓gr_142_25, ↓gr_142_27, ↓gi_142_31, ↓c_135, ↓ld_153, ↓st_153, ↓ld_154, ↓st_154, ↓ld_155, ↓st_155, ↓ld_156, ↓st_156, ↓ld_157, ↓st_157, ↓ld_158, ↓st_158, ↓n_150, ↓s_150_0, ↓s_150_29, ↓s_150_30, ↓s_150_40, ↓s_150_92, ↓s_150_107, ↓s_150_117, ↓s_150_147, ↓s_150_180, ↓s_150_186, ↓s_150_193, ↓bk_v, ↓bk_n, ↓bk_r, ↓pv_i, ↓pv_r, ↓pv_0, ↓pv_l, wz_pk, wz_ti, wz_wz, vI_wz, wz_id, wz_0, List.length_cons, List.length_nil, ↓reduceIte, true_and, and_true, Int.reduceLE, Int.reduceLT, Int.reduceEq, not_true_eq_false, not_false_eq_true, false_or, or_false, true_or, or_true, ite_not, Int.reduceNeg, Int32.reduceToInt, Nat.reduceAdd, Nat.reduceLeDiff, Nat.reduceLT, Nat.reduceEqDiff, Int.reduceAdd, Int.reduceSub, Int.reduceMul, Nat.zero_le, pk_po_ne, pk_po_eq, pk_po_ix, rI, ne_eq, g, wz_of g, e1, if_false, b1, b2, v1, v2]
      exact z
  have l1 : ∀ M', fx [142, 153, 154, 157] M M' → (∀ i, ¬ i = 31 → pk M' 142 i = pk M 142 i) → pk M' 142 31 = c → (0 < ((0 : Nat) : Int) → pk M' 157 0 = 0) → (∀ r, 0 ≤ r → r + 1 < ((0 : Nat) : Int) → pk M' 157 (r + 1) = pk M 158 (r + 1)) → EX 150 (sx 150 162) [.ref 142, vI n, vI c, vI ((0 : Nat) : Int)] [] (mkh X s dh dl t M') Q := by
    refine lp (n := (c + 1).toNat) (fun m => ∀ M', fx [142, 153, 154, 157] M M' → (∀ i, ¬ i = 31 → pk M' 142 i = pk M 142 i) → pk M' 142 31 = c → (0 < (m : Int) → pk M' 157 0 = 0) → (∀ r, 0 ≤ r → r + 1 < (m : Int) → pk M' 157 (r + 1) = pk M 158 (r + 1)) → EX 150 (sx 150 162) [.ref 142, vI n, vI c, vI (m : Int)] [] (mkh X s dh dl t M') Q) ?_ ?_
    · intro M' f1 f2 f3 f4 f5
      have e1 : c < ((c + 1).toNat : Int) := by omega
      have z := l2 M' f1 f2 f3 (f4 (by omega)) (fun r u v => f5 r u (by omega)) (fun i u v => by omega) (fun i u v => by omega)
      rw [s_150_162]
      simp (disch := omega) only [↓x_al_0, ↓x_c, ↓pi_142_0, ↓x_il_1, ↓x_lt0, ↓gi_142_2, ↓x_gt, ↓x_go, ↓c_119, ↓x_ne0, ↓x_ir, ↓c_134, ↓pi_142_32, ↓x_is_2, ↓c_123, ↓x_eq0, ↓c_133, ↓c_128, ↓x_str, ↓c_129, ↓x_lcw0, ↓x_lcw1, ↓gi_142_4, ↓c_124, ↓x_il_2, ↓x_ne, ↓c_130, ↓c_148, ↓c_132, ↓x_inc_2, ↓gr_142_29, ↓gi_142_32, ↓gi_142_5, ↓pi_142_31, ↓x_is_3, ↓x_il_3, ↓gr_142_28, ↓x_inc_3, ↓x_ge, ↓gr_142_24, ↓gr_142_26, ↓gr_142_25, ↓gr_142_27, ↓gi_142_31, ↓c_135, ↓ld_153, ↓st_153, ↓ld_154, ↓st_154, ↓ld_155, ↓st_155, ↓ld_156, ↓st_156, ↓ld_157, ↓st_157, ↓ld_158, ↓st_158, ↓n_150, ↓s_150_0, ↓s_150_29, ↓s_150_30, ↓s_150_40, ↓s_150_92, ↓s_150_107, ↓s_150_117, ↓s_150_147, ↓s_150_180, ↓s_150_186, ↓s_150_193, ↓s_150_233, ↓bk_v, ↓bk_n, ↓bk_r, ↓pv_i, ↓pv_r, ↓pv_0, ↓pv_l, wz_pk, wz_ti, wz_wz, vI_wz, wz_id, wz_0, List.length_cons, List.length_nil, ↓reduceIte, true_and, and_true, Int.reduceLE, Int.reduceLT, Int.reduceEq, not_true_eq_false, not_false_eq_true, false_or, or_false, true_or, or_true, ite_not, Int.reduceNeg, Int32.reduceToInt, Nat.reduceAdd, Nat.reduceLeDiff, Nat.reduceLT, Nat.reduceEqDiff, Int.reduceAdd, Int.reduceSub, Int.reduceMul, Nat.zero_le, pk_po_ne, pk_po_eq, pk_po_ix, rI, ne_eq, e1, if_true]
      exact z
    · intro m hm ih M' f1 f2 f3 f4 f5
      have e1 : ¬ c < (m : Int) := by omega
      have b1 : (m : Int) < 11 := by omega
      have b2 : 0 ≤ (m : Int) := by omega
      have v1 : pk M' 158 m = pk M 158 m := f1.at (by decide)
      rw [s_150_162]
      by_cases d : m = 0
      · subst d
        have z := ih (po M' 157 ((0 : Nat) : Int) 0) (f1.pw (by decide)) (fun i hi => by rw [pk_po_ne (by decide)]; exact f2 i hi) (by rw [pk_po_ne (by decide)]; exact f3) (fun _ => by rw [show ((0 : Nat) : Int) = 0 from rfl, pk_po_eq]; rfl) (fun r u v => by omega)
        have e0 : ((0 : Nat) : Int) = 0 := rfl
        rw [e0] at z e1 ⊢
        simp (disch := omega) only [↓x_al_0, ↓x_c, ↓pi_142_0, ↓x_il_1, ↓x_lt0, ↓gi_142_2, ↓x_gt, ↓x_go, ↓c_119, ↓x_ne0, ↓x_ir, ↓c_134, ↓pi_142_32, ↓x_is_2, ↓c_123, ↓x_eq0, ↓c_133, ↓c_128, ↓x_str, ↓c_129, ↓x_lcw0, ↓x_lcw1, ↓gi_142_4, ↓c_124, ↓x_il_2, ↓x_ne, ↓c_130, ↓c_148, ↓c_132, ↓x_inc_2, ↓gr_142_29, ↓gi_142_32, ↓gi_142_5, ↓pi_142_31, ↓x_is_3, ↓x_il_3, ↓gr_142_28, ↓x_inc_3, ↓x_ge, ↓gr_142_24, ↓gr_142_26, ↓gr_142_25, ↓gr_142_27, ↓gi_142_31, ↓c_135, ↓ld_153, ↓st_153, ↓ld_154, ↓st_154, ↓ld_155, ↓st_155, ↓ld_156, ↓st_156, ↓ld_157, ↓st_157, ↓ld_158, ↓st_158, ↓n_150, ↓s_150_0, ↓s_150_29, ↓s_150_30, ↓s_150_40, ↓s_150_92, ↓s_150_107, ↓s_150_117, ↓s_150_147, ↓s_150_180, ↓s_150_186, ↓s_150_193, ↓s_150_233, ↓bk_v, ↓bk_n, ↓bk_r, ↓pv_i, ↓pv_r, ↓pv_0, ↓pv_l, wz_pk, wz_ti, wz_wz, vI_wz, wz_id, wz_0, List.length_cons, List.length_nil, ↓reduceIte, true_and, and_true, Int.reduceLE, Int.reduceLT, Int.reduceEq, not_true_eq_false, not_false_eq_true, false_or, or_false, true_or, or_true, ite_not, Int.reduceNeg, Int32.reduceToInt, Nat.reduceAdd, Nat.reduceLeDiff, Nat.reduceLT, Nat.reduceEqDiff, Int.reduceAdd, Int.reduceSub, Int.reduceMul, Nat.zero_le, pk_po_ne, pk_po_eq, pk_po_ix, rI, ne_eq, e1, if_false, if_true]
        exact z
      · have d' : ¬ (m : Int) = 0 := by omega
        have z := ih (po M' 157 m (pk M 158 m)) (f1.pw (by decide)) (fun i hi => by rw [pk_po_ne (by decide)]; exact f2 i hi) (by rw [pk_po_ne (by decide)]; exact f3) (fun _ => by rw [pk_po_ix (by omega)]; exact f4 (by omega)) (fun r u v => by
          by_cases dd : r + 1 = m
          · rw [dd, pk_po_eq]; exact wz_pk
          · rw [pk_po_ix dd]; exact f5 r u (by omega))
        simp (disch := omega) only [↓x_al_0, ↓x_c, ↓pi_142_0, ↓x_il_1, ↓x_lt0, ↓gi_142_2, ↓x_gt, ↓x_go, ↓c_119, ↓x_ne0, ↓x_ir, ↓c_134, ↓pi_142_32, ↓x_is_2, ↓c_123, ↓x_eq0, ↓c_133, ↓c_128, ↓x_str, ↓c_129, ↓x_lcw0, ↓x_lcw1, ↓gi_142_4, ↓c_124, ↓x_il_2, ↓x_ne, ↓c_130, ↓c_148, ↓c_132, ↓x_inc_2, ↓gr_142_29, ↓gi_142_32, ↓gi_142_5, ↓pi_142_31, ↓x_is_3, ↓x_il_3, ↓gr_142_28, ↓x_inc_3, ↓x_ge, ↓gr_142_24, ↓gr_142_26, ↓gr_142_25, ↓gr_142_27, ↓gi_142_31, ↓c_135, ↓ld_153, ↓st_153, ↓ld_154, ↓st_154, ↓ld_155, ↓st_155, ↓ld_156, ↓st_156, ↓ld_157, ↓st_157, ↓ld_158, ↓st_158, ↓n_150, ↓s_150_0, ↓s_150_29, ↓s_150_30, ↓s_150_40, ↓s_150_92, ↓s_150_107, ↓s_150_117, ↓s_150_147, ↓s_150_180, ↓s_150_186, ↓s_150_193, ↓s_150_233, ↓bk_v, ↓bk_n, ↓bk_r, ↓pv_i, ↓pv_r, ↓pv_0, ↓pv_l, wz_pk, wz_ti, wz_wz, vI_wz, wz_id, wz_0, List.length_cons, List.length_nil, ↓reduceIte, true_and, and_true, Int.reduceLE, Int.reduceLT, Int.reduceEq, not_true_eq_false, not_false_eq_true, false_or, or_false, true_or, or_true, ite_not, Int.reduceNeg, Int32.reduceToInt, Nat.reduceAdd, Nat.reduceLeDiff, Nat.reduceLT, Nat.reduceEqDiff, Int.reduceAdd, Int.reduceSub, Int.reduceMul, Nat.zero_le, pk_po_ne, pk_po_eq, pk_po_ix, rI, ne_eq, e1, if_false, d', b1, b2, v1]
        exact z
  have z := l1 (po M 142 31 c) (fx.rfl.pw (by decide)) (fun i hi => pk_po_ix hi) (by rw [pk_po_eq]; exact wc) (fun h => by omega) (fun r u v => by omega)
  rw [s_150_147]
  simp (disch := omega) only [↓x_al_0, ↓x_c, ↓pi_142_0, ↓x_il_1, ↓x_lt0, ↓gi_142_2, ↓x_gt, ↓x_go, ↓c_119, ↓x_ne0, ↓x_ir, ↓c_134, ↓pi_142_32, ↓x_is_2, ↓c_123, ↓x_eq0, ↓c_133, ↓c_128, ↓x_str, ↓c_129, ↓x_lcw0, ↓x_lcw1, ↓gi_142_4, ↓c_124, ↓x_il_2, ↓x_ne, ↓c_130, ↓c_148, ↓c_132, ↓x_inc_2, ↓gr_142_29, ↓gi_142_32, ↓gi_142_5, ↓pi_142_31, ↓x_is_3, ↓x_il_3, ↓gr_142_28, ↓x_inc_3, ↓x_ge, ↓gr_142_24, ↓gr_142_26, ↓gr_142_25, ↓gr_142_27, ↓gi_142_31, ↓c_135, ↓ld_153, ↓st_153, ↓ld_154, ↓st_154, ↓ld_155, ↓st_155, ↓ld_156, ↓st_156, ↓ld_157, ↓st_157, ↓ld_158, ↓st_158, ↓n_150, ↓s_150_0, ↓s_150_29, ↓s_150_30, ↓s_150_40, ↓s_150_92, ↓s_150_107, ↓s_150_117, ↓s_150_147, ↓s_150_180, ↓s_150_186, ↓s_150_193, ↓s_150_233, ↓bk_v, ↓bk_n, ↓bk_r, ↓pv_i, ↓pv_r, ↓pv_0, ↓pv_l, wz_pk, wz_ti, wz_wz, vI_wz, wz_id, wz_0, List.length_cons, List.length_nil, ↓reduceIte, true_and, and_true, Int.reduceLE, Int.reduceLT, Int.reduceEq, not_true_eq_false, not_false_eq_true, false_or, or_false, true_or, or_true, ite_not, Int.reduceNeg, Int32.reduceToInt, Nat.reduceAdd, Nat.reduceLeDiff, Nat.reduceLT, Nat.reduceEqDiff, Int.reduceAdd, Int.reduceSub, Int.reduceMul, Nat.zero_le, pk_po_ne, pk_po_eq, pk_po_ix, rI, ne_eq, hb, if_false, if_true]
  exact z
theorem R150 (hR : RR S M) (hB : 0 ≤ S 0 1 ∧ S 0 1 ≤ 600) (hn : wz n = n) (hP : PR X s dh dl t M Q cA (o_rules S n)) : CL 150 [.ref 142, vI n] (mkh X s dh dl t M) Q := by
  have g0 := hR.taped
  have hR0 := hR.pw (a := 142) (i := 0) (x := 0) rfl
  have hF0 : FR M (po M 142 0 0) := FR.rfl.pw (by decide)
  by_cases h : 0 ≤ n ∧ n ≤ min (S 0 1) 300
  · have h1 : ¬ n < 0 := by omega
    have h2 : ¬ S 0 1 < n := by omega
    have h2' : ¬ 300 < n := by omega
    obtain ⟨M1, hM1⟩ : ∃ M1, M1 = po (po (po (po (po (po (po (po M 142 0 0) 142 2 0) 142 8 (-1)) 142 3 n) 142 4 0) 142 5 (-1)) 142 7 0) 142 32 0 := ⟨_, rfl⟩
    obtain ⟨S1, hS1⟩ : ∃ S1, S1 = clrL (su (su S 0 1 0) 2 5 (-1)) := ⟨_, rfl⟩
    have s1 : S1 1 = S 1 := by rw [hS1]; funext j; simp [clrL, su]
    have a3 : pk M1 142 3 = n := by rw [hM1]; simp [pk_po, hn]
    have a4 : pk M1 142 4 = 0 := by rw [hM1]; simp [pk_po, wz_0]
    have a5 : pk M1 142 5 = -1 := by rw [hM1]; simp [pk_po]; rfl
    have a2 : pk M1 142 2 = 0 := by rw [hM1]; simp [pk_po, wz_0]
    have a32 : pk M1 142 32 = 0 := by rw [hM1]; simp [pk_po, wz_0]
    have ao : ∀ a i, rst a i = true → ¬ (a = 142 ∧ (i = 2 ∨ i = 8)) → pk M1 a i = pk M a i := by
      intro a i e1 e2
      simp only [rst, Bool.or_eq_true, Bool.and_eq_true, decide_eq_true_eq] at e1
      rw [hM1, pk_po, if_neg (by omega), pk_po, if_neg (by omega), pk_po, if_neg (by omega), pk_po, if_neg (by omega), pk_po, if_neg (by omega), pk_po, if_neg (by omega), pk_po, if_neg (by omega), pk_po, if_neg (by omega)]
    have a0 : pk M1 142 0 = 0 := by rw [hM1]; simp [pk_po, wz_0]
    have hF1 : FR M M1 := by
      rw [hM1]
      exact (((((((hF0.pw (by decide)).pw (by decide)).pw (by decide)).pw (by decide)).pw (by decide)).pw (by decide)).pw (by decide))
    have hT1 : TR S1 n M1 := ⟨fun i b1 b2 => by rw [ao _ _ rfl (by omega), s1]; exact hR.tape i b1 (by omega), a3, ⟨h.1, by omega⟩⟩
    have v0 : S1 69 0 = 0 := by rw [hS1]; simp [clrL, su]
    have v1 : S1 69 1 = 0 := by rw [hS1]; simp [clrL, su]
    have hN1 : RNl S1 M1 := ⟨by rw [v1]; exact a32, fun i u v => by omega, fun i u v => by omega, fun i u v => by omega⟩
    have hs1 : ∀ a, ¬ a = 0 → ¬ a = 2 → (a < 69 ∨ 74 ≤ a) → S1 a = S a := by
      intro a e1 e2 e3
      rw [hS1]
      funext j
      simp only [clrL, su]
      rw [if_neg (by omega), if_neg (by omega), if_neg (by omega), if_neg (by omega)]
    have z01 : S1 0 1 = 0 := by rw [hS1]; simp [clrL, su]
    have z011 : S1 0 11 = S 0 11 := by rw [hS1]; simp [clrL, su]
    have z25 : S1 2 5 = -1 := by rw [hS1]; simp [clrL, su]
    have hRr : l_all n 11 0 0 S1 = lwR S n := by rw [hS1]; rfl
    have kfx : ∀ M2, NL M1 M2 → ∀ a i, rst a i = true → ¬ (a = 142 ∧ (i = 2 ∨ i = 8)) → pk M2 a i = pk M a i := by
      intro M2 nl a i e1 e2
      rw [nl.2 a i ?_, ao a i e1 e2]
      simp only [rst, Bool.or_eq_true, Bool.and_eq_true, decide_eq_true_eq] at e1
      simp only [lfx, Bool.or_eq_false_iff, decide_eq_false_iff_not]
      omega
    have lo := R150l (Q := Q) (X := X) (s := s) (dh := dh) (dl := dl) (t := t) (n := n) (M1 := M1) (S1 := S1) (lwR S n) (by omega) ?_ ?_ 11 0 0 S1 M1 (by decide) (by decide) (by decide) (by decide) h.1 hT1 hN1 ⟨fun h => by omega, fun _ => v1⟩ v0 (by omega) (by omega) (fun _ _ => rfl) NL.rfl a5 hRr
    · rw [ra_self a4] at lo
      simp (disch := omega) only [↓x_al_0, ↓x_c, ↓pi_142_0, ↓x_il_1, ↓x_lt0, ↓gi_142_2, ↓x_gt, ↓x_go, ↓c_119, ↓x_ne0, ↓x_ir, ↓c_134, ↓pi_142_32, ↓x_is_2, ↓c_123, ↓x_eq0, ↓c_133, ↓c_128, ↓x_str, ↓c_129, ↓x_lcw0, ↓x_lcw1, ↓gi_142_4, ↓c_124, ↓x_il_2, ↓x_ne, ↓c_130, ↓c_148, ↓c_132, ↓x_inc_2, ↓gr_142_29, ↓gi_142_32, ↓gi_142_5, ↓pi_142_31, ↓x_is_3, ↓x_il_3, ↓gr_142_28, ↓x_inc_3, ↓x_ge, ↓gr_142_24, ↓gr_142_26, ↓gr_142_25, ↓gr_142_27, ↓gi_142_31, ↓c_135, ↓ld_153, ↓st_153, ↓ld_154, ↓st_154, ↓ld_155, ↓st_155, ↓ld_156, ↓st_156, ↓ld_157, ↓st_157, ↓ld_158, ↓st_158, ↓n_150, ↓s_150_0, ↓s_150_29, ↓s_150_40, ↓s_150_92, ↓s_150_107, ↓s_150_117, ↓s_150_147, ↓s_150_180, ↓s_150_186, ↓s_150_193, ↓s_150_233, ↓bk_v, ↓bk_n, ↓bk_r, ↓pv_i, ↓pv_r, ↓pv_0, ↓pv_l, wz_pk, wz_ti, wz_wz, vI_wz, wz_id, wz_0, List.length_cons, List.length_nil, ↓reduceIte, true_and, and_true, Int.reduceLE, Int.reduceLT, Int.reduceEq, not_true_eq_false, not_false_eq_true, false_or, or_false, true_or, or_true, ite_not, Int.reduceNeg, Int32.reduceToInt, Nat.reduceAdd, Nat.reduceLeDiff, Nat.reduceLT, Nat.reduceEqDiff, Int.reduceAdd, Int.reduceSub, Int.reduceMul, Nat.zero_le, pk_po_ne, pk_po_eq, pk_po_ix, rI, ne_eq, hn, g0, wz_of g0, h1, h2, h2', if_false]
      rw [s_150_30]
      simp (disch := omega) only [↓x_al_0, ↓x_c, ↓pi_142_0, ↓x_il_1, ↓x_lt0, ↓gi_142_2, ↓x_gt, ↓x_go, ↓c_119, ↓x_ne0, ↓x_ir, ↓c_134, ↓pi_142_32, ↓x_is_2, ↓c_123, ↓x_eq0, ↓c_133, ↓c_128, ↓x_str, ↓c_129, ↓x_lcw0, ↓x_lcw1, ↓gi_142_4, ↓c_124, ↓x_il_2, ↓x_ne, ↓c_130, ↓c_148, ↓c_132, ↓x_inc_2, ↓gr_142_29, ↓gi_142_32, ↓gi_142_5, ↓pi_142_31, ↓x_is_3, ↓x_il_3, ↓gr_142_28, ↓x_inc_3, ↓x_ge, ↓gr_142_24, ↓gr_142_26, ↓gr_142_25, ↓gr_142_27, ↓gi_142_31, ↓c_135, ↓ld_153, ↓st_153, ↓ld_154, ↓st_154, ↓ld_155, ↓st_155, ↓ld_156, ↓st_156, ↓ld_157, ↓st_157, ↓ld_158, ↓st_158, ↓n_150, ↓s_150_0, ↓s_150_29, ↓s_150_30, ↓s_150_40, ↓s_150_92, ↓s_150_107, ↓s_150_117, ↓s_150_147, ↓s_150_180, ↓s_150_186, ↓s_150_193, ↓s_150_233, ↓bk_v, ↓bk_n, ↓bk_r, ↓pv_i, ↓pv_r, ↓pv_0, ↓pv_l, wz_pk, wz_ti, wz_wz, vI_wz, wz_id, wz_0, List.length_cons, List.length_nil, ↓reduceIte, true_and, and_true, Int.reduceLE, Int.reduceLT, Int.reduceEq, not_true_eq_false, not_false_eq_true, false_or, or_false, true_or, or_true, ite_not, Int.reduceNeg, Int32.reduceToInt, Nat.reduceAdd, Nat.reduceLeDiff, Nat.reduceLT, Nat.reduceEqDiff, Int.reduceAdd, Int.reduceSub, Int.reduceMul, Nat.zero_le, pk_po_ne, pk_po_eq, pk_po_ix, rI, ne_eq, ↓R119v (M := po M 142 0 0) (c := 1) (k := 1) th0 rfl (by decide) (by decide), if_false, ↓R134]
      rw [← hM1]
      exact lo _
    · -- done
      intro y S2 M2 r1 r2 r3 r4 r5 r6 r7 r8
      refine R150e r5 r6 r2.1 r8 ?_
      intro M3 f1 f2 f3 f4 f5 f6 f7 b
      have k0 : ∀ a, ¬ a = 0 → ¬ a = 2 → (a < 63 ∨ 75 ≤ a) → swSL S2 a = S a := by
        intro a e1 e2 e3
        unfold swSL
        rw [if_neg (by omega), if_neg (by omega), r4 a (by omega), hs1 a e1 e2 (by omega)]
      have k00 : ∀ i, swSL S2 0 i = S1 0 i := fun i => by unfold swSL; rw [if_neg (by omega), if_neg (by omega), r4 0 (by omega)]
      have k2 : swSL S2 2 5 = -1 := by unfold swSL; rw [if_neg (by omega), if_neg (by omega), r4 2 (by omega)]; exact z25
      have kf : ∀ a i, rst a i = true → rstL a i = false → ¬ (a = 142 ∧ (i = 2 ∨ i = 8)) → pk (po M3 142 8 (-1)) a i = pk M a i := by
        intro a i e1 e2 e3
        have e1' := e1
        simp only [rst, rstL, Bool.or_eq_true, Bool.and_eq_true, decide_eq_true_eq, Bool.or_eq_false_iff, Bool.and_eq_false_iff, decide_eq_false_iff_not] at e1 e2
        rw [pk_po, if_neg (by omega)]
        by_cases d : a = 142
        · subst d
          rw [f2 i (by omega), kfx M2 r7 _ _ e1' e3]
        · rw [f1.at (by simp; omega), kfx M2 r7 _ _ e1' e3]
      have hl : RRl (swSL S2) (po M3 142 8 (-1)) := by
        have w63 : ∀ i, swSL S2 63 i = S2 69 i := fun i => by simp [swSL]
        have w64 : ∀ i, swSL S2 64 i = S2 70 i := fun i => by simp [swSL]
        have w65 : ∀ i, swSL S2 65 i = S2 71 i := fun i => by simp [swSL]
        have w66 : ∀ i, swSL S2 66 i = S2 72 i := fun i => by simp [swSL]
        have w67 : ∀ i, swSL S2 67 i = S2 73 i := fun i => by simp [swSL]
        have ln : lend (swSL S2) = S2 69 1 := by
          unfold lend
          rw [w63, w67]
          by_cases d : 0 < S2 69 0
          · rw [if_pos d, r3.1 d]
          · rw [if_neg d, r3.2 (by omega)]
        refine ⟨?_, ?_, ?_, ?_, ?_⟩
        · rw [pk_po_ix (by decide), w63]; exact f3
        · rw [pk_po_ne (by decide)]; exact f4
        · intro r u v
          rw [w63] at v
          rw [pk_po_ne (by decide), w67, f5 r u v]; exact r2.2.2.2 r u v
        · intro i u v
          rw [ln] at v
          rw [pk_po_ne (by decide), w64, w65, f6 i u v]; exact r2.2.1 i u v
        · intro i u v
          rw [ln] at v
          rw [pk_po_ne (by decide), w64, w65, w66, f7 i u v]; exact r2.2.2.1 i u v
      have hR2 : RR (swSL S2) (po M3 142 8 (-1)) := by
        obtain ⟨q1, q2, q3, q4, q5, q6, q7, q8, q9⟩ := hR
        refine ⟨?_, ?_, ?_, (q4.sm (fun a i h => kf a i (rstH_r h) ?_ ?_)).st (fun a e1 e2 => k0 a (by omega) (by omega) (by omega)), hl, ?_, ?_, ?_, fun j hj => ?_⟩
        · rw [k00, z01, pk_po_ix (by decide), f2 _ (by decide), r7.2 _ _ rfl]; exact a2
        · intro i e1 e2
          rw [k00, z01] at e2
          omega
        · rw [pk_po_eq, k2]; rfl
        · simp only [rstH, rstL, Bool.or_eq_true, Bool.and_eq_true, decide_eq_true_eq, Bool.or_eq_false_iff, decide_eq_false_iff_not] at *
          omega
        · rintro ⟨rfl, rfl | rfl⟩ <;> cases h
        · have q10 := q6.sm (M' := po M3 142 8 (-1)) (fun a i h => kf a i (rstC_r h) (by
            simp only [rstC, rstL, Bool.or_eq_true, Bool.and_eq_true, decide_eq_true_eq, Bool.or_eq_false_iff, decide_eq_false_iff_not] at *
            omega) (by rintro ⟨rfl, rfl | rfl⟩ <;> cases h))
          unfold RRc at q10 ⊢
          simp only [k0 78 (by decide) (by decide) (by decide), k0 79 (by decide) (by decide) (by decide), k0 80 (by decide) (by decide) (by decide), k0 81 (by decide) (by decide) (by decide), k0 82 (by decide) (by decide) (by decide), k0 83 (by decide) (by decide) (by decide), k0 84 (by decide) (by decide) (by decide), k0 85 (by decide) (by decide) (by decide), k0 86 (by decide) (by decide) (by decide), k0 87 (by decide) (by decide) (by decide), k0 88 (by decide) (by decide) (by decide), k0 89 (by decide) (by decide) (by decide)]
          exact q10
        · intro i e1 e2
          rw [kf _ _ rfl rfl (by omega), k0 105 (by decide) (by decide) (by decide)]; exact q7 i e1 e2
        · rw [k00, z011, kf _ _ rfl rfl (by decide)]; exact q8
        · rw [k00, z011] at hj
          exact ((q9 j hj).sm (fun i => kf _ _ rfl rfl (by omega))).st (fun k hk => k0 _ (by omega) (by omega) (by omega))
      have e := hP.ok (M' := po M3 142 8 (-1)) (by rw [o_rules, if_pos h, r1]; rfl) hR2 (FR.pw (fun a ha => by
        rw [f1 a (by simp; omega)]
        exact (hF1.trans r7.1) a ha) (by decide)) (by rw [pk_po_ix (by decide), f2 _ (by decide), r7.2 _ _ rfl]; exact a0)
      have f5' : pk M3 142 5 = -1 := by rw [f2 _ (by decide)]; exact r8
      rw [s_150_233]
      simp (disch := omega) only [↓x_al_0, ↓x_c, ↓pi_142_0, ↓x_il_1, ↓x_lt0, ↓gi_142_2, ↓x_gt, ↓x_go, ↓c_119, ↓x_ne0, ↓x_ir, ↓c_134, ↓pi_142_32, ↓x_is_2, ↓c_123, ↓x_eq0, ↓c_133, ↓c_128, ↓x_str, ↓c_129, ↓x_lcw0, ↓x_lcw1, ↓gi_142_4, ↓c_124, ↓x_il_2, ↓x_ne, ↓c_130, ↓c_148, ↓c_132, ↓x_inc_2, ↓gr_142_29, ↓gi_142_32, ↓gi_142_5, ↓pi_142_31, ↓x_is_3, ↓x_il_3, ↓gr_142_28, ↓x_inc_3, ↓x_ge, ↓gr_142_24, ↓gr_142_26, ↓gr_142_25, ↓gr_142_27, ↓gi_142_31, ↓c_135, ↓ld_153, ↓st_153, ↓ld_154, ↓st_154, ↓ld_155, ↓st_155, ↓ld_156, ↓st_156, ↓ld_157, ↓st_157, ↓ld_158, ↓st_158, ↓n_150, ↓s_150_0, ↓s_150_29, ↓s_150_30, ↓s_150_40, ↓s_150_92, ↓s_150_107, ↓s_150_117, ↓s_150_147, ↓s_150_180, ↓s_150_186, ↓s_150_193, ↓s_150_233, ↓bk_v, ↓bk_n, ↓bk_r, ↓pv_i, ↓pv_r, ↓pv_0, ↓pv_l, wz_pk, wz_ti, wz_wz, vI_wz, wz_id, wz_0, List.length_cons, List.length_nil, ↓reduceIte, true_and, and_true, Int.reduceLE, Int.reduceLT, Int.reduceEq, not_true_eq_false, not_false_eq_true, false_or, or_false, true_or, or_true, ite_not, Int.reduceNeg, Int32.reduceToInt, Nat.reduceAdd, Nat.reduceLeDiff, Nat.reduceLT, Nat.reduceEqDiff, Int.reduceAdd, Int.reduceSub, Int.reduceMul, Nat.zero_le, pk_po_ne, pk_po_eq, pk_po_ix, rI, ne_eq, f3, ↓R135, f5', if_true]
      exact e
    · -- a fault
      intro k y S2 M2 hk r1 r2 r3 r4 a b
      have hw1 := wz_of r4.1
      have hb2 : ¬ pk M2 142 5 = -1 := by rw [r4.1]; exact r4.2.2
      have e0 : ∀ a, ¬ a = 0 → ¬ a = 2 → (a < 69 ∨ 74 ≤ a) → su S2 2 5 y a = S a := by
        intro a e1 e2 e3
        funext j
        unfold su
        rw [if_neg (fun h => e2 h.1), r2 a e3, hs1 a e1 e2 e3]
      have kf : ∀ a i, rst a i = true → ¬ (a = 142 ∧ (i = 2 ∨ i = 8)) → pk (po M2 142 8 y) a i = pk M a i := by
        intro a i e1 e2
        rw [pk_po, if_neg (by omega), kfx M2 r3 a i e1 e2]
      have hR2 : RR (su S2 2 5 y) (po M2 142 8 y) := by
        obtain ⟨q1, q2, q3, q4, q5, q6, q7, q8, q9⟩ := hR
        have es0 : ∀ i, su S2 2 5 y 0 i = S1 0 i := fun i => by unfold su; rw [if_neg (by omega), r2 0 (by omega)]
        refine ⟨?_, ?_, ?_, (q4.sm (fun a i h => kf a i (rstH_r h) ?_)).st (fun a e1 e2 => e0 a (by omega) (by omega) (by omega)), (q5.sm (fun a i h => kf a i (rstL_r h) ?_)).st (fun a e1 e2 => e0 a (by omega) (by omega) (by omega)), ?_, ?_, ?_, fun j hj => ?_⟩
        · rw [es0, z01, pk_po_ix (by decide), r3.2 _ _ rfl]; exact a2
        · intro i e1 e2
          rw [es0, z01] at e2
          omega
        · rw [pk_po_eq, hw1]; simp [su]
        · rintro ⟨rfl, rfl | rfl⟩ <;> cases h
        · rintro ⟨rfl, rfl | rfl⟩ <;> cases h
        · have q10 := q6.sm (M' := po M2 142 8 y) (fun a i h => kf a i (rstC_r h) (by rintro ⟨rfl, rfl | rfl⟩ <;> cases h))
          unfold RRc at q10 ⊢
          simp only [e0 78 (by decide) (by decide) (by decide), e0 79 (by decide) (by decide) (by decide), e0 80 (by decide) (by decide) (by decide), e0 81 (by decide) (by decide) (by decide), e0 82 (by decide) (by decide) (by decide), e0 83 (by decide) (by decide) (by decide), e0 84 (by decide) (by decide) (by decide), e0 85 (by decide) (by decide) (by decide), e0 86 (by decide) (by decide) (by decide), e0 87 (by decide) (by decide) (by decide), e0 88 (by decide) (by decide) (by decide), e0 89 (by decide) (by decide) (by decide)]
          exact q10
        · intro i e1 e2
          rw [kf _ _ rfl (by omega), e0 105 (by decide) (by decide) (by decide)]; exact q7 i e1 e2
        · rw [es0, z011, kf _ _ rfl (by decide)]; exact q8
        · rw [es0, z011] at hj
          exact ((q9 j hj).sm (fun i => kf _ _ rfl (by omega))).st (fun k hk => e0 _ (by omega) (by omega) (by omega))
      have e := hP.ok (M' := po M2 142 8 y) (by rw [o_rules, if_pos h, r1, if_neg hk]) hR2 ((hF1.trans r3.1).pw (by decide)) (by rw [pk_po_ix (by decide), r3.2 _ _ rfl]; exact a0)
      have rr1 := r4.1
      have rr2 := r4.2.1
      have rr3 := r4.2.2
      rw [s_150_147]
      simp (disch := omega) only [↓x_al_0, ↓x_c, ↓pi_142_0, ↓x_il_1, ↓x_lt0, ↓gi_142_2, ↓x_gt, ↓x_go, ↓c_119, ↓x_ne0, ↓x_ir, ↓c_134, ↓pi_142_32, ↓x_is_2, ↓c_123, ↓x_eq0, ↓c_133, ↓c_128, ↓x_str, ↓c_129, ↓x_lcw0, ↓x_lcw1, ↓gi_142_4, ↓c_124, ↓x_il_2, ↓x_ne, ↓c_130, ↓c_148, ↓c_132, ↓x_inc_2, ↓gr_142_29, ↓gi_142_32, ↓gi_142_5, ↓pi_142_31, ↓x_is_3, ↓x_il_3, ↓gr_142_28, ↓x_inc_3, ↓x_ge, ↓gr_142_24, ↓gr_142_26, ↓gr_142_25, ↓gr_142_27, ↓gi_142_31, ↓c_135, ↓ld_153, ↓st_153, ↓ld_154, ↓st_154, ↓ld_155, ↓st_155, ↓ld_156, ↓st_156, ↓ld_157, ↓st_157, ↓ld_158, ↓st_158, ↓n_150, ↓s_150_0, ↓s_150_29, ↓s_150_30, ↓s_150_40, ↓s_150_92, ↓s_150_107, ↓s_150_117, ↓s_150_147, ↓s_150_180, ↓s_150_186, ↓s_150_193, ↓s_150_233, ↓bk_v, ↓bk_n, ↓bk_r, ↓pv_i, ↓pv_r, ↓pv_0, ↓pv_l, wz_pk, wz_ti, wz_wz, vI_wz, wz_id, wz_0, List.length_cons, List.length_nil, ↓reduceIte, true_and, and_true, Int.reduceLE, Int.reduceLT, Int.reduceEq, not_true_eq_false, not_false_eq_true, false_or, or_false, true_or, or_true, ite_not, Int.reduceNeg, Int32.reduceToInt, Nat.reduceAdd, Nat.reduceLeDiff, Nat.reduceLT, Nat.reduceEqDiff, Int.reduceAdd, Int.reduceSub, Int.reduceMul, Nat.zero_le, pk_po_ne, pk_po_eq, pk_po_ix, rI, ne_eq, hb2, if_false, if_true, ↓R135, rr1, rr2, rr3, hw1]
      exact e
  · have e := fun v => hP.no (v := v) 2 (by decide) (by rw [o_rules, if_neg h]) (hR0.ref (c := 1) (k := 1) (by decide)) hF0.rfM (rfM_t rfl)
    by_cases c1 : n < 0
    · simp (disch := omega) only [↓x_al_0, ↓x_c, ↓pi_142_0, ↓x_il_1, ↓x_lt0, ↓gi_142_2, ↓x_gt, ↓x_go, ↓c_119, ↓x_ne0, ↓x_ir, ↓c_134, ↓pi_142_32, ↓x_is_2, ↓c_123, ↓x_eq0, ↓c_133, ↓c_128, ↓x_str, ↓c_129, ↓x_lcw0, ↓x_lcw1, ↓gi_142_4, ↓c_124, ↓x_il_2, ↓x_ne, ↓c_130, ↓c_148, ↓c_132, ↓x_inc_2, ↓gr_142_29, ↓gi_142_32, ↓gi_142_5, ↓pi_142_31, ↓x_is_3, ↓x_il_3, ↓gr_142_28, ↓x_inc_3, ↓x_ge, ↓gr_142_24, ↓gr_142_26, ↓gr_142_25, ↓gr_142_27, ↓gi_142_31, ↓c_135, ↓ld_153, ↓st_153, ↓ld_154, ↓st_154, ↓ld_155, ↓st_155, ↓ld_156, ↓st_156, ↓ld_157, ↓st_157, ↓ld_158, ↓st_158, ↓n_150, ↓s_150_0, ↓s_150_29, ↓s_150_30, ↓s_150_40, ↓s_150_92, ↓s_150_107, ↓s_150_117, ↓s_150_147, ↓s_150_180, ↓s_150_186, ↓s_150_193, ↓s_150_233, ↓bk_v, ↓bk_n, ↓bk_r, ↓pv_i, ↓pv_r, ↓pv_0, ↓pv_l, wz_pk, wz_ti, wz_wz, vI_wz, wz_id, wz_0, List.length_cons, List.length_nil, ↓reduceIte, true_and, and_true, Int.reduceLE, Int.reduceLT, Int.reduceEq, not_true_eq_false, not_false_eq_true, false_or, or_false, true_or, or_true, ite_not, Int.reduceNeg, Int32.reduceToInt, Nat.reduceAdd, Nat.reduceLeDiff, Nat.reduceLT, Nat.reduceEqDiff, Int.reduceAdd, Int.reduceSub, Int.reduceMul, Nat.zero_le, pk_po_ne, pk_po_eq, pk_po_ix, rI, ne_eq, hn, g0, wz_of g0, c1, if_true, ↓R119v (M := po M 142 0 0) (c := 1) (k := 1) th0 rfl (by decide) (by decide)]
      exact e _
    · by_cases c2 : S 0 1 < n
      · simp (disch := omega) only [↓x_al_0, ↓x_c, ↓pi_142_0, ↓x_il_1, ↓x_lt0, ↓gi_142_2, ↓x_gt, ↓x_go, ↓c_119, ↓x_ne0, ↓x_ir, ↓c_134, ↓pi_142_32, ↓x_is_2, ↓c_123, ↓x_eq0, ↓c_133, ↓c_128, ↓x_str, ↓c_129, ↓x_lcw0, ↓x_lcw1, ↓gi_142_4, ↓c_124, ↓x_il_2, ↓x_ne, ↓c_130, ↓c_148, ↓c_132, ↓x_inc_2, ↓gr_142_29, ↓gi_142_32, ↓gi_142_5, ↓pi_142_31, ↓x_is_3, ↓x_il_3, ↓gr_142_28, ↓x_inc_3, ↓x_ge, ↓gr_142_24, ↓gr_142_26, ↓gr_142_25, ↓gr_142_27, ↓gi_142_31, ↓c_135, ↓ld_153, ↓st_153, ↓ld_154, ↓st_154, ↓ld_155, ↓st_155, ↓ld_156, ↓st_156, ↓ld_157, ↓st_157, ↓ld_158, ↓st_158, ↓n_150, ↓s_150_0, ↓s_150_29, ↓s_150_30, ↓s_150_40, ↓s_150_92, ↓s_150_107, ↓s_150_117, ↓s_150_147, ↓s_150_180, ↓s_150_186, ↓s_150_193, ↓s_150_233, ↓bk_v, ↓bk_n, ↓bk_r, ↓pv_i, ↓pv_r, ↓pv_0, ↓pv_l, wz_pk, wz_ti, wz_wz, vI_wz, wz_id, wz_0, List.length_cons, List.length_nil, ↓reduceIte, true_and, and_true, Int.reduceLE, Int.reduceLT, Int.reduceEq, not_true_eq_false, not_false_eq_true, false_or, or_false, true_or, or_true, ite_not, Int.reduceNeg, Int32.reduceToInt, Nat.reduceAdd, Nat.reduceLeDiff, Nat.reduceLT, Nat.reduceEqDiff, Int.reduceAdd, Int.reduceSub, Int.reduceMul, Nat.zero_le, pk_po_ne, pk_po_eq, pk_po_ix, rI, ne_eq, hn, g0, wz_of g0, c1, c2, if_true, if_false, ↓R119v (M := po M 142 0 0) (c := 1) (k := 1) th0 rfl (by decide) (by decide)]
        exact e _
      · have c3 : 300 < n := by omega
        simp (disch := omega) only [↓x_al_0, ↓x_c, ↓pi_142_0, ↓x_il_1, ↓x_lt0, ↓gi_142_2, ↓x_gt, ↓x_go, ↓c_119, ↓x_ne0, ↓x_ir, ↓c_134, ↓pi_142_32, ↓x_is_2, ↓c_123, ↓x_eq0, ↓c_133, ↓c_128, ↓x_str, ↓c_129, ↓x_lcw0, ↓x_lcw1, ↓gi_142_4, ↓c_124, ↓x_il_2, ↓x_ne, ↓c_130, ↓c_148, ↓c_132, ↓x_inc_2, ↓gr_142_29, ↓gi_142_32, ↓gi_142_5, ↓pi_142_31, ↓x_is_3, ↓x_il_3, ↓gr_142_28, ↓x_inc_3, ↓x_ge, ↓gr_142_24, ↓gr_142_26, ↓gr_142_25, ↓gr_142_27, ↓gi_142_31, ↓c_135, ↓ld_153, ↓st_153, ↓ld_154, ↓st_154, ↓ld_155, ↓st_155, ↓ld_156, ↓st_156, ↓ld_157, ↓st_157, ↓ld_158, ↓st_158, ↓n_150, ↓s_150_0, ↓s_150_29, ↓s_150_30, ↓s_150_40, ↓s_150_92, ↓s_150_107, ↓s_150_117, ↓s_150_147, ↓s_150_180, ↓s_150_186, ↓s_150_193, ↓s_150_233, ↓bk_v, ↓bk_n, ↓bk_r, ↓pv_i, ↓pv_r, ↓pv_0, ↓pv_l, wz_pk, wz_ti, wz_wz, vI_wz, wz_id, wz_0, List.length_cons, List.length_nil, ↓reduceIte, true_and, and_true, Int.reduceLE, Int.reduceLT, Int.reduceEq, not_true_eq_false, not_false_eq_true, false_or, or_false, true_or, or_true, ite_not, Int.reduceNeg, Int32.reduceToInt, Nat.reduceAdd, Nat.reduceLeDiff, Nat.reduceLT, Nat.reduceEqDiff, Int.reduceAdd, Int.reduceSub, Int.reduceMul, Nat.zero_le, pk_po_ne, pk_po_eq, pk_po_ix, rI, ne_eq, hn, g0, wz_of g0, c1, c2, c3, if_true, if_false, ↓R119v (M := po M 142 0 0) (c := 1) (k := 1) th0 rfl (by decide) (by decide)]
        exact e _
end R87
