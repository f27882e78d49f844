/-! where a promise is done -/
theorem pm_run {a c f : Int} {sp : Int → Int} (ha : 1 ≤ a) (hc : 1 ≤ c) (hf : 0 ≤ f) : ∀ n : Nat, (n : Int) ≤ (a - 1) / c → (whb sp c f n = true → pmN a c f sp (f.toNat + n) = (a - n * c, -1, -1)) ∧ (¬ whb sp c f n = true → ¬ (pmN a c f sp (f.toNat + n)).2.1 = -1 ∧ (pmN a c f sp (f.toNat + n)).2.2 = -1) := by
  have k1 := Int.mul_ediv_self_le (x := a - 1) (k := c) (by omega)
  intro n
  induction n with
  | zero =>
    intro _
    refine ⟨fun _ => ?_, fun h => absurd rfl h⟩
    rw [Nat.add_zero, pm_early _ (by omega)]
    simp
  | succ n ih =>
    intro hn
    obtain ⟨h1, h2⟩ := ih (by omega)
    have k2 : c * ((n : Int) + 1) ≤ c * ((a - 1) / c) := Int.mul_le_mul_of_nonneg_left (by omega) (by omega)
    rw [Int.mul_add, Int.mul_one] at k2
    have k3 : ((n + 1 : Nat) : Int) * c = c * n + c := by rw [show ((n + 1 : Nat) : Int) = (n : Int) + 1 by omega, Int.add_mul, Int.one_mul, Int.mul_comm]
    have k4 : (n : Int) * c = c * n := Int.mul_comm _ _
    have k5 : f + (n : Int) = ((f.toNat + n : Nat) : Int) := by omega
    have es : pmN a c f sp (f.toNat + (n + 1)) = if ((f.toNat + n : Nat) : Int) < f ∨ (pmN a c f sp (f.toNat + n)).1 = 0 ∨ ¬ (pmN a c f sp (f.toNat + n)).2.1 = -1 then pmN a c f sp (f.toNat + n) else if sp ((f.toNat + n : Nat) : Int) < min c (pmN a c f sp (f.toNat + n)).1 then ((pmN a c f sp (f.toNat + n)).1, ((f.toNat + n : Nat) : Int), (pmN a c f sp (f.toNat + n)).2.2) else ((pmN a c f sp (f.toNat + n)).1 - min c (pmN a c f sp (f.toNat + n)).1, (pmN a c f sp (f.toNat + n)).2.1, if (pmN a c f sp (f.toNat + n)).1 - min c (pmN a c f sp (f.toNat + n)).1 = 0 then ((f.toNat + n : Nat) : Int) else (pmN a c f sp (f.toNat + n)).2.2) := rfl
    simp only [whb, Bool.and_eq_true, decide_eq_true_eq]
    rw [es, ← k5]
    by_cases w : whb sp c f n = true
    · have e := h1 w
      rw [e]
      simp only
      have z1 : ¬ (f + (n : Int) < f ∨ a - (n : Int) * c = 0 ∨ ¬ True) := by
        rw [k4]
        rintro (x | x | x)
        · omega
        · omega
        · exact x trivial
      have z2 : min c (a - (n : Int) * c) = c := by rw [k4]; omega
      rw [if_neg z1, z2]
      by_cases w2 : c ≤ sp (f + n)
      · rw [if_neg (by omega), if_neg (by omega)]
        refine ⟨fun _ => by rw [k3]; congr 1; omega, fun h => absurd ⟨w, w2⟩ h⟩
      · rw [if_pos (by omega)]
        refine ⟨fun h => absurd h.2 w2, fun _ => ⟨by simp only; omega, rfl⟩⟩
    · have e := h2 w
      rw [if_pos (Or.inr (Or.inr e.1))]
      exact ⟨fun h => absurd h.1 w, fun _ => e⟩
theorem pm_done {a c f : Int} {sp : Int → Int} (ha : 1 ≤ a) (hc : 1 ≤ c) (hf : 0 ≤ f ∧ f ≤ 35) : (pmN a c f sp 36).2.2 = if doneA a c f < 36 ∧ wouldB sp a c f = true then doneA a c f else -1 := by
  have k1 := Int.mul_ediv_self_le (x := a - 1) (k := c) (by omega)
  have k0 := Int.lt_mul_ediv_self_add (x := a - 1) (k := c) (by omega)
  have kn : 0 ≤ (a - 1) / c := Int.ediv_nonneg (by omega) (by omega)
  unfold doneA wouldB
  by_cases h : f + (a - 1) / c < 36
  · have hr := pm_run (sp := sp) ha hc hf.1 ((a - 1) / c).toNat (by omega)
    rw [show (((a - 1) / c).toNat : Int) = (a - 1) / c by omega] at hr
    generalize hK : (a - 1) / c = K at *
    have k4 : K * c = c * K := Int.mul_comm _ _
    obtain ⟨h1, h2⟩ := hr
    by_cases w : whb sp c f K.toNat = true
    · have e := h1 w
      have es : pmN a c f sp (f.toNat + K.toNat + 1) = if ((f.toNat + K.toNat : Nat) : Int) < f ∨ (pmN a c f sp (f.toNat + K.toNat)).1 = 0 ∨ ¬ (pmN a c f sp (f.toNat + K.toNat)).2.1 = -1 then pmN a c f sp (f.toNat + K.toNat) else if sp ((f.toNat + K.toNat : Nat) : Int) < min c (pmN a c f sp (f.toNat + K.toNat)).1 then ((pmN a c f sp (f.toNat + K.toNat)).1, ((f.toNat + K.toNat : Nat) : Int), (pmN a c f sp (f.toNat + K.toNat)).2.2) else ((pmN a c f sp (f.toNat + K.toNat)).1 - min c (pmN a c f sp (f.toNat + K.toNat)).1, (pmN a c f sp (f.toNat + K.toNat)).2.1, if (pmN a c f sp (f.toNat + K.toNat)).1 - min c (pmN a c f sp (f.toNat + K.toNat)).1 = 0 then ((f.toNat + K.toNat : Nat) : Int) else (pmN a c f sp (f.toNat + K.toNat)).2.2) := rfl
      rw [e] at es
      simp only at es
      have k5 : ((f.toNat + K.toNat : Nat) : Int) = f + K := by omega
      have z1 : ¬ (f + K < f ∨ a - K * c = 0 ∨ ¬ True) := by
        rw [k4]
        rintro (x | x | x)
        · omega
        · omega
        · exact x trivial
      have z2 : min c (a - K * c) = a - c * K := by rw [k4]; omega
      rw [k5, if_neg z1, z2, k4] at es
      have st := pm_stop (a := a) (c := c) (f := f) (sp := sp) (m := f.toNat + K.toNat + 1)
      by_cases w2 : a - c * K ≤ sp (f + K)
      · rw [if_neg (by omega), if_pos (by omega)] at es
        have st := st (by rw [es]; simp only; omega) (36 - (f.toNat + K.toNat + 1))
        rw [show f.toNat + K.toNat + 1 + (36 - (f.toNat + K.toNat + 1)) = 36 by omega, es] at st
        rw [st, if_pos ⟨h, by rw [k4]; simp only [doneA, hK]; simp [w, w2]⟩]
      · rw [if_pos (by omega)] at es
        have st := st (by rw [es]; simp only; omega) (36 - (f.toNat + K.toNat + 1))
        rw [show f.toNat + K.toNat + 1 + (36 - (f.toNat + K.toNat + 1)) = 36 by omega, es] at st
        rw [st, if_neg (by rw [k4]; simp only [doneA, hK]; simp [w2])]
    · have e := h2 w
      have st := pm_stop (a := a) (c := c) (f := f) (sp := sp) (m := f.toNat + K.toNat) (Or.inr e.1) (36 - (f.toNat + K.toNat))
      rw [show f.toNat + K.toNat + (36 - (f.toNat + K.toNat)) = 36 by omega] at st
      rw [st, if_neg (by simp [w])]
      exact e.2
  · rw [if_neg (fun x => h x.1)]
    have hr := pm_run (sp := sp) ha hc hf.1 (36 - f.toNat) (by omega)
    rw [show f.toNat + (36 - f.toNat) = 36 by omega] at hr
    by_cases w : whb sp c f (36 - f.toNat) = true
    · rw [hr.1 w]
    · exact (hr.2 w).2
theorem py_sum {a c f : Int} {sp : Int → Int} : ∀ n : Nat, sm (fun u => (pmN a c f sp u.toNat).1 - (pmN a c f sp (u.toNat + 1)).1) n = a - (pmN a c f sp n).1 := by
  intro n
  induction n with
  | zero => simp [sm, pmN]
  | succ n ih =>
    simp only [sm]
    rw [ih, Int.toNat_natCast]
    omega
theorem bs_rng {sp : Int → Int} {a f : Int} (hf : 0 ≤ f) (ha : 1 ≤ a) : ∀ n : Nat, ((bsN sp a f n).1 = -1 ∧ (bsN sp a f n).2 = -1) ∨ ((1 ≤ (bsN sp a f n).1 ∧ (bsN sp a f n).1 ≤ n) ∧ (0 ≤ (bsN sp a f n).2 ∧ (bsN sp a f n).2 < 36)) := by
  intro n
  induction n with
  | zero => left; exact ⟨rfl, rfl⟩
  | succ n ih =>
    have kn : 0 ≤ (a - 1) / ((n : Int) + 1) := Int.ediv_nonneg (by omega) (by omega)
    simp only [bsN]
    split
    · rename_i h
      right
      have h1 := h.1
      simp only
      unfold doneA at *
      omega
    · omega
section R69
variable {Q : MOut → MHp → Prop} {X : Nat × (Nat → Int32)} {s : Bool × Bool} {dh dl t : Nat} {M : Mem} {S : St}
theorem R187 {k w : Int} (hR : RR S M) (hH : hou S) (hI : crs S 78) (hk : wz k = k) (hw : wz w = w) (hP : PR X s dh dl t M Q cB (o_kept S k w)) : CL 187 [.ref 142, vI k, vI w] (mkh X s dh dl t M) Q := by
  have n1 := c78_proms hI
  have gp := hR.c.proms
  have hR0 := hR.pw (a := 142) (i := 0) (x := 0) rfl
  have hF0 : FR M (po M 142 0 0) := FR.rfl.pw (by decide)
  simp (disch := omega) only [↓x_al_0, ↓x_c, ↓pi_142_0, ↓x_il_1, ↓gi_142_50, ↓x_isub, ↓c_120, ↓c_119, ↓x_eq0, ↓x_il_2, ↓x_ne0, ↓x_ir, ↓c_185, ↓c_184, ↓x_ge, ↓gr_142_54, ↓x_go, ↓gr_142_55, ↓x_is_3, ↓x_is_4, ↓x_il_4, ↓x_il_3, ↓gr_142_53, ↓x_imul, ↓x_iadd, ↓x_inc_4, ↓ld_168, ↓ld_169, ↓ld_170, ↓n_187, ↓s_187_0, ↓s_187_40, ↓s_187_72, ↓s_187_78, ↓s_187_79, ↓s_187_112, ↓bk_v, ↓bk_n, ↓bk_r, ↓pv_i, ↓pv_r, ↓pv_0, ↓pv_l, wz_pk, wz_ti, wz_wz, vI_wz, wz_id, wz_0, List.length_cons, List.length_nil, ↓reduceIte, true_and, and_true, Int.reduceLE, Int.reduceLT, Int.reduceEq, not_true_eq_false, not_false_eq_true, false_or, or_false, true_or, or_true, ite_not, Int.reduceNeg, Int32.reduceToInt, Nat.reduceAdd, Nat.reduceLeDiff, Nat.reduceLT, Nat.reduceEqDiff, Int.reduceAdd, Int.reduceSub, Int.reduceMul, Nat.zero_le, pk_po_ne, pk_po_eq, pk_po_ix, rI, ne_eq, ↓R120, ↓R119 (M := po M 142 0 0) (c := 1) (k := 0) th0 rfl (by decide) (by decide), ↓R119 (M := po M 142 0 0) (c := 2) (k := 1) th0 rfl (by decide) (by decide), hk, hw, gp, decide_eq_true_eq]
  by_cases h : 0 ≤ k ∧ k < S 78 9
  · rw [if_pos (by omega)]
    by_cases h2 : 0 ≤ w ∧ w ≤ 2
    · rw [if_pos h2, s_187_42]
      simp only [↓x_al_0, ↓x_c, ↓pi_142_0, ↓x_il_1, ↓gi_142_50, ↓x_isub, ↓c_120, ↓c_119, ↓x_eq0, ↓x_il_2, ↓x_ne0, ↓x_ir, ↓c_185, ↓c_184, ↓x_ge, ↓gr_142_54, ↓x_go, ↓gr_142_55, ↓x_is_3, ↓x_is_4, ↓x_il_4, ↓x_il_3, ↓gr_142_53, ↓x_imul, ↓x_iadd, ↓x_inc_4, ↓ld_168, ↓ld_169, ↓ld_170, ↓n_187, ↓s_187_0, ↓s_187_40, ↓s_187_42, ↓s_187_72, ↓s_187_78, ↓s_187_79, ↓s_187_112, ↓bk_v, ↓bk_n, ↓bk_r, ↓pv_i, ↓pv_r, ↓pv_0, ↓pv_l, wz_pk, wz_ti, wz_wz, vI_wz, wz_id, wz_0, List.length_cons, List.length_nil, ↓reduceIte, true_and, and_true, Int.reduceLE, Int.reduceLT, Int.reduceEq, not_true_eq_false, not_false_eq_true, false_or, or_false, true_or, or_true, ite_not, Int.reduceNeg, Int32.reduceToInt, Nat.reduceAdd, Nat.reduceLeDiff, Nat.reduceLT, Nat.reduceEqDiff, Int.reduceAdd, Int.reduceSub, Int.reduceMul, Nat.zero_le, pk_po_ne, pk_po_eq, pk_po_ix, rI, ne_eq]
      refine R185 hR0 hI ?_
      intro M1 f1 a1
      have s1 : SF (po M 142 0 0) M1 := SF.rfl.row (n := 173) (by decide) f1
      have g1 := (hR0.sf s1).c.proms
      have eN : S 78 9 = ((S 78 9).toNat : Int) := by omega
      simp only [↓x_al_0, ↓x_c, ↓pi_142_0, ↓x_il_1, ↓gi_142_50, ↓x_isub, ↓c_120, ↓c_119, ↓x_eq0, ↓x_il_2, ↓x_ne0, ↓x_ir, ↓c_185, ↓c_184, ↓x_ge, ↓gr_142_54, ↓x_go, ↓gr_142_55, ↓x_is_3, ↓x_is_4, ↓x_il_4, ↓x_il_3, ↓gr_142_53, ↓x_imul, ↓x_iadd, ↓x_inc_4, ↓ld_168, ↓ld_169, ↓ld_170, ↓n_187, ↓s_187_0, ↓s_187_40, ↓s_187_42, ↓s_187_72, ↓s_187_78, ↓s_187_79, ↓s_187_112, ↓bk_v, ↓bk_n, ↓bk_r, ↓pv_i, ↓pv_r, ↓pv_0, ↓pv_l, wz_pk, wz_ti, wz_wz, vI_wz, wz_id, wz_0, List.length_cons, List.length_nil, ↓reduceIte, true_and, and_true, Int.reduceLE, Int.reduceLT, Int.reduceEq, not_true_eq_false, not_false_eq_true, false_or, or_false, true_or, or_true, ite_not, Int.reduceNeg, Int32.reduceToInt, Nat.reduceAdd, Nat.reduceLeDiff, Nat.reduceLT, Nat.reduceEqDiff, Int.reduceAdd, Int.reduceSub, Int.reduceMul, Nat.zero_le, pk_po_ne, pk_po_eq, pk_po_ix, rI, ne_eq, g1]
      rw [eN]
      refine R184 hH (hR0.sf s1).h a1 (by omega) ?_
      intro M2 f2 a2
      have s2 := s1.fxs f2 rfl
      obtain ⟨p1, p2, p3, p4⟩ := a2 k.toNat (by omega)
      have ek : (k.toNat : Int) = k := by omega
      rw [ek] at p1 p2 p3 p4
      have e := hP.ok (M' := M2) (by rw [o_kept, if_pos h, if_pos h2]) (hR0.sf s2) (hF0.trans s2.1) (by rw [s2.th]; exact th0)
      have b9 : k < 9 := by omega
      have b10 : 0 ≤ k := by omega
      have epm : prK S k.toNat = pmK S k.toNat 36 := rfl
      rw [epm] at e
      have hw3 : w = 0 ∨ w = 1 ∨ w = 2 := by omega
      rcases hw3 with rfl | rfl | rfl
      · simp only [if_true] at e
        simp (disch := omega) only [↓x_al_0, ↓x_c, ↓pi_142_0, ↓x_il_1, ↓gi_142_50, ↓x_isub, ↓c_120, ↓c_119, ↓x_eq0, ↓x_il_2, ↓x_ne0, ↓x_ir, ↓c_185, ↓c_184, ↓x_ge, ↓gr_142_54, ↓x_go, ↓gr_142_55, ↓x_is_3, ↓x_is_4, ↓x_il_4, ↓x_il_3, ↓gr_142_53, ↓x_imul, ↓x_iadd, ↓x_inc_4, ↓ld_168, ↓ld_169, ↓ld_170, ↓n_187, ↓s_187_0, ↓s_187_40, ↓s_187_42, ↓s_187_72, ↓s_187_78, ↓s_187_79, ↓s_187_112, ↓bk_v, ↓bk_n, ↓bk_r, ↓pv_i, ↓pv_r, ↓pv_0, ↓pv_l, wz_pk, wz_ti, wz_wz, vI_wz, wz_id, wz_0, List.length_cons, List.length_nil, ↓reduceIte, true_and, and_true, Int.reduceLE, Int.reduceLT, Int.reduceEq, not_true_eq_false, not_false_eq_true, false_or, or_false, true_or, or_true, ite_not, Int.reduceNeg, Int32.reduceToInt, Nat.reduceAdd, Nat.reduceLeDiff, Nat.reduceLT, Nat.reduceEqDiff, Int.reduceAdd, Int.reduceSub, Int.reduceMul, Nat.zero_le, pk_po_ne, pk_po_eq, pk_po_ix, rI, ne_eq, p2, b9, b10]
        exact e
      · simp only [if_true, Int.reduceEq, if_false] at e
        simp (disch := omega) only [↓x_al_0, ↓x_c, ↓pi_142_0, ↓x_il_1, ↓gi_142_50, ↓x_isub, ↓c_120, ↓c_119, ↓x_eq0, ↓x_il_2, ↓x_ne0, ↓x_ir, ↓c_185, ↓c_184, ↓x_ge, ↓gr_142_54, ↓x_go, ↓gr_142_55, ↓x_is_3, ↓x_is_4, ↓x_il_4, ↓x_il_3, ↓gr_142_53, ↓x_imul, ↓x_iadd, ↓x_inc_4, ↓ld_168, ↓ld_169, ↓ld_170, ↓n_187, ↓s_187_0, ↓s_187_40, ↓s_187_42, ↓s_187_72, ↓s_187_78, ↓s_187_79, ↓s_187_112, ↓bk_v, ↓bk_n, ↓bk_r, ↓pv_i, ↓pv_r, ↓pv_0, ↓pv_l, wz_pk, wz_ti, wz_wz, vI_wz, wz_id, wz_0, List.length_cons, List.length_nil, ↓reduceIte, true_and, and_true, Int.reduceLE, Int.reduceLT, Int.reduceEq, not_true_eq_false, not_false_eq_true, false_or, or_false, true_or, or_true, ite_not, Int.reduceNeg, Int32.reduceToInt, Nat.reduceAdd, Nat.reduceLeDiff, Nat.reduceLT, Nat.reduceEqDiff, Int.reduceAdd, Int.reduceSub, Int.reduceMul, Nat.zero_le, pk_po_ne, pk_po_eq, pk_po_ix, rI, ne_eq, p3, b9, b10]
        exact e
      · simp only [if_true, Int.reduceEq, if_false] at e
        have q4 := c78_pd hI k h.1 h.2
        have q5 := c78_pm hI k h.1 h.2
        have u2 := hH.amt (S 87 k) q4.1 q4.2
        have esum : ∀ n : Nat, sm (fun u => pyK S k.toNat u.toNat) n = S 30 (S 87 k) - (pmK S k.toNat n).1 := fun n => by
          have := py_sum (a := S 30 (S 87 (k.toNat : Int))) (c := S 88 (k.toNat : Int)) (f := S 89 (k.toNat : Int)) (sp := spN S (S 29 (S 87 (k.toNat : Int))) k.toNat) n
          rw [ek] at this
          unfold pyK pmK
          rw [ek]
          exact this
        have key : EX 187 (sx 187 84) [.ref 142, vI k, vI 2, vI (sm (fun u => pyK S k.toNat u.toNat) (0 : Nat)), vI ((0 : Nat) : Int)] [] (mkh X s dh dl t M2) Q := by
          refine lp (n := 36) (fun n => EX 187 (sx 187 84) [.ref 142, vI k, vI 2, vI (sm (fun u => pyK S k.toNat u.toNat) n), vI (n : Int)] [] (mkh X s dh dl t M2) Q) ?_ ?_
          · have e1 : (36 : Int) ≤ ((36 : Nat) : Int) := by omega
            rw [s_187_84]
            simp (disch := omega) only [↓x_al_0, ↓x_c, ↓pi_142_0, ↓x_il_1, ↓gi_142_50, ↓x_isub, ↓c_120, ↓c_119, ↓x_eq0, ↓x_il_2, ↓x_ne0, ↓x_ir, ↓c_185, ↓c_184, ↓x_ge, ↓gr_142_54, ↓x_go, ↓gr_142_55, ↓x_is_3, ↓x_is_4, ↓x_il_4, ↓x_il_3, ↓gr_142_53, ↓x_imul, ↓x_iadd, ↓x_inc_4, ↓ld_168, ↓ld_169, ↓ld_170, ↓n_187, ↓s_187_0, ↓s_187_40, ↓s_187_42, ↓s_187_72, ↓s_187_78, ↓s_187_79, ↓s_187_112, ↓bk_v, ↓bk_n, ↓bk_r, ↓pv_i, ↓pv_r, ↓pv_0, ↓pv_l, wz_pk, wz_ti, wz_wz, vI_wz, wz_id, wz_0, List.length_cons, List.length_nil, ↓reduceIte, true_and, and_true, Int.reduceLE, Int.reduceLT, Int.reduceEq, not_true_eq_false, not_false_eq_true, false_or, or_false, true_or, or_true, ite_not, Int.reduceNeg, Int32.reduceToInt, Nat.reduceAdd, Nat.reduceLeDiff, Nat.reduceLT, Nat.reduceEqDiff, Int.reduceAdd, Int.reduceSub, Int.reduceMul, Nat.zero_le, pk_po_ne, pk_po_eq, pk_po_ix, rI, ne_eq, e1, if_true]
            rw [esum 36]
            exact e
          · intro n hn ih
            have e1 : ¬ (36 : Int) ≤ n := by omega
            have b1 : 36 * k + n < 324 := by omega
            have b2 : 0 ≤ 36 * k + n := by omega
            have v := p4 n hn
            simp only [sm, Int.toNat_natCast] at ih
            rw [s_187_84]
            simp (disch := omega) only [↓x_al_0, ↓x_c, ↓pi_142_0, ↓x_il_1, ↓gi_142_50, ↓x_isub, ↓c_120, ↓c_119, ↓x_eq0, ↓x_il_2, ↓x_ne0, ↓x_ir, ↓c_185, ↓c_184, ↓x_ge, ↓gr_142_54, ↓x_go, ↓gr_142_55, ↓x_is_3, ↓x_is_4, ↓x_il_4, ↓x_il_3, ↓gr_142_53, ↓x_imul, ↓x_iadd, ↓x_inc_4, ↓ld_168, ↓ld_169, ↓ld_170, ↓n_187, ↓s_187_0, ↓s_187_40, ↓s_187_42, ↓s_187_72, ↓s_187_78, ↓s_187_79, ↓s_187_112, ↓bk_v, ↓bk_n, ↓bk_r, ↓pv_i, ↓pv_r, ↓pv_0, ↓pv_l, wz_pk, wz_ti, wz_wz, vI_wz, wz_id, wz_0, List.length_cons, List.length_nil, ↓reduceIte, true_and, and_true, Int.reduceLE, Int.reduceLT, Int.reduceEq, not_true_eq_false, not_false_eq_true, false_or, or_false, true_or, or_true, ite_not, Int.reduceNeg, Int32.reduceToInt, Nat.reduceAdd, Nat.reduceLeDiff, Nat.reduceLT, Nat.reduceEqDiff, Int.reduceAdd, Int.reduceSub, Int.reduceMul, Nat.zero_le, pk_po_ne, pk_po_eq, pk_po_ix, rI, ne_eq, e1, if_false, b1, b2, v]
            exact ih
        simp (disch := omega) only [↓x_al_0, ↓x_c, ↓pi_142_0, ↓x_il_1, ↓gi_142_50, ↓x_isub, ↓c_120, ↓c_119, ↓x_eq0, ↓x_il_2, ↓x_ne0, ↓x_ir, ↓c_185, ↓c_184, ↓x_ge, ↓gr_142_54, ↓x_go, ↓gr_142_55, ↓x_is_3, ↓x_is_4, ↓x_il_4, ↓x_il_3, ↓gr_142_53, ↓x_imul, ↓x_iadd, ↓x_inc_4, ↓ld_168, ↓ld_169, ↓ld_170, ↓n_187, ↓s_187_0, ↓s_187_40, ↓s_187_42, ↓s_187_72, ↓s_187_78, ↓s_187_79, ↓s_187_112, ↓bk_v, ↓bk_n, ↓bk_r, ↓pv_i, ↓pv_r, ↓pv_0, ↓pv_l, wz_pk, wz_ti, wz_wz, vI_wz, wz_id, wz_0, List.length_cons, List.length_nil, ↓reduceIte, true_and, and_true, Int.reduceLE, Int.reduceLT, Int.reduceEq, not_true_eq_false, not_false_eq_true, false_or, or_false, true_or, or_true, ite_not, Int.reduceNeg, Int32.reduceToInt, Nat.reduceAdd, Nat.reduceLeDiff, Nat.reduceLT, Nat.reduceEqDiff, Int.reduceAdd, Int.reduceSub, Int.reduceMul, Nat.zero_le, pk_po_ne, pk_po_eq, pk_po_ix, rI, ne_eq]
        exact key
    · rw [if_neg h2]
      exact hP.no 2 (by decide) (by rw [o_kept, if_pos h, if_neg h2]) (hR0.ref (by decide)) hF0.rfM (rfM_t rfl)
  · rw [if_neg (by omega)]
    exact hP.no 1 (by decide) (by rw [o_kept, if_neg h]) (hR0.ref (by decide)) hF0.rfM (rfM_t rfl)
theorem R188 {p m : Int} (hR : RR S M) (hH : hou S) (hI : crs S 78) (hp : wz p = p) (hm : wz m = m) (hP : PR X s dh dl t M Q cB (o_spare S p m)) : CL 188 [.ref 142, vI p, vI m] (mkh X s dh dl t M) Q := by
  have n1 := c78_proms hI
  have n2 := hH.np
  have n3 := hH.nd
  have hR0 := hR.pw (a := 142) (i := 0) (x := 0) rfl
  have hF0 : FR M (po M 142 0 0) := FR.rfl.pw (by decide)
  simp (disch := omega) only [↓x_al_0, ↓x_c, ↓pi_142_0, ↓x_il_1, ↓c_166, ↓x_eq0, ↓x_il_2, ↓c_120, ↓c_119, ↓x_ne0, ↓x_ir, ↓c_185, ↓gi_142_50, ↓c_184, ↓gr_142_14, ↓x_imul, ↓x_iadd, ↓x_isub, ↓x_is_3, ↓x_is_4, ↓x_il_4, ↓x_ge, ↓x_il_3, ↓gr_142_16, ↓gr_142_48, ↓x_ne, ↓gr_142_53, ↓x_go, ↓x_inc_4, ↓ld_149, ↓ld_151, ↓ld_166, ↓ld_168, ↓n_188, ↓s_188_0, ↓s_188_30, ↓s_188_118, ↓s_188_119, ↓s_188_127, ↓bk_v, ↓bk_n, ↓bk_r, ↓pv_i, ↓pv_r, ↓pv_0, ↓pv_l, wz_pk, wz_ti, wz_wz, vI_wz, wz_id, wz_0, List.length_cons, List.length_nil, ↓reduceIte, true_and, and_true, Int.reduceLE, Int.reduceLT, Int.reduceEq, not_true_eq_false, not_false_eq_true, false_or, or_false, true_or, or_true, ite_not, Int.reduceNeg, Int32.reduceToInt, Nat.reduceAdd, Nat.reduceLeDiff, Nat.reduceLT, Nat.reduceEqDiff, Int.reduceAdd, Int.reduceSub, Int.reduceMul, Nat.zero_le, pk_po_ne, pk_po_eq, pk_po_ix, rI, ne_eq, ↓R166 (c := 1) hR0 hH hp th0 rfl (by decide), ↓R120, ↓R119 (M := po M 142 0 0) (c := 2) (k := 1) th0 rfl (by decide) (by decide), hm, decide_eq_true_eq]
  by_cases h : 0 ≤ p ∧ p < S 3 0
  · rw [if_pos h]
    by_cases h2 : 0 ≤ m ∧ m ≤ 35
    · rw [if_pos h2, s_188_32]
      simp only [↓x_al_0, ↓x_c, ↓pi_142_0, ↓x_il_1, ↓c_166, ↓x_eq0, ↓x_il_2, ↓c_120, ↓c_119, ↓x_ne0, ↓x_ir, ↓c_185, ↓gi_142_50, ↓c_184, ↓gr_142_14, ↓x_imul, ↓x_iadd, ↓x_isub, ↓x_is_3, ↓x_is_4, ↓x_il_4, ↓x_ge, ↓x_il_3, ↓gr_142_16, ↓gr_142_48, ↓x_ne, ↓gr_142_53, ↓x_go, ↓x_inc_4, ↓ld_149, ↓ld_151, ↓ld_166, ↓ld_168, ↓n_188, ↓s_188_0, ↓s_188_30, ↓s_188_32, ↓s_188_118, ↓s_188_119, ↓s_188_127, ↓bk_v, ↓bk_n, ↓bk_r, ↓pv_i, ↓pv_r, ↓pv_0, ↓pv_l, wz_pk, wz_ti, wz_wz, vI_wz, wz_id, wz_0, List.length_cons, List.length_nil, ↓reduceIte, true_and, and_true, Int.reduceLE, Int.reduceLT, Int.reduceEq, not_true_eq_false, not_false_eq_true, false_or, or_false, true_or, or_true, ite_not, Int.reduceNeg, Int32.reduceToInt, Nat.reduceAdd, Nat.reduceLeDiff, Nat.reduceLT, Nat.reduceEqDiff, Int.reduceAdd, Int.reduceSub, Int.reduceMul, Nat.zero_le, pk_po_ne, pk_po_eq, pk_po_ix, rI, ne_eq]
      refine R185 hR0 hI ?_
      intro M1 f1 a1
      have s1 : SF (po M 142 0 0) M1 := SF.rfl.row (n := 173) (by decide) f1
      have g1 := (hR0.sf s1).c.proms
      have eN : S 78 9 = ((S 78 9).toNat : Int) := by omega
      simp only [↓x_al_0, ↓x_c, ↓pi_142_0, ↓x_il_1, ↓c_166, ↓x_eq0, ↓x_il_2, ↓c_120, ↓c_119, ↓x_ne0, ↓x_ir, ↓c_185, ↓gi_142_50, ↓c_184, ↓gr_142_14, ↓x_imul, ↓x_iadd, ↓x_isub, ↓x_is_3, ↓x_is_4, ↓x_il_4, ↓x_ge, ↓x_il_3, ↓gr_142_16, ↓gr_142_48, ↓x_ne, ↓gr_142_53, ↓x_go, ↓x_inc_4, ↓ld_149, ↓ld_151, ↓ld_166, ↓ld_168, ↓n_188, ↓s_188_0, ↓s_188_30, ↓s_188_32, ↓s_188_118, ↓s_188_119, ↓s_188_127, ↓bk_v, ↓bk_n, ↓bk_r, ↓pv_i, ↓pv_r, ↓pv_0, ↓pv_l, wz_pk, wz_ti, wz_wz, vI_wz, wz_id, wz_0, List.length_cons, List.length_nil, ↓reduceIte, true_and, and_true, Int.reduceLE, Int.reduceLT, Int.reduceEq, not_true_eq_false, not_false_eq_true, false_or, or_false, true_or, or_true, ite_not, Int.reduceNeg, Int32.reduceToInt, Nat.reduceAdd, Nat.reduceLeDiff, Nat.reduceLT, Nat.reduceEqDiff, Int.reduceAdd, Int.reduceSub, Int.reduceMul, Nat.zero_le, pk_po_ne, pk_po_eq, pk_po_ix, rI, ne_eq, g1]
      rw [eN]
      refine R184 hH (hR0.sf s1).h a1 (by omega) ?_
      intro M2 f2 a2
      have s2 := s1.fxs f2 rfl
      have hR2 := hR0.sf s2
      have a3 := a1.fr f2
      have e := hP.ok (M' := M2) (by rw [o_spare, if_pos h, if_pos h2]) hR2 (hF0.trans s2.1) (by rw [s2.th]; exact th0)
      have v1 := hR2.h.inc p m h.1 h.2 h2.1 (by omega)
      have v2 := hR2.h.needs p h.1 h.2
      have i1 := hH.needs p h.1 h.2
      have i2 := hH.inc p m h.1 h.2 h2.1 (by omega)
      have b1 : 38 * p + 1 + m < 152 := by omega
      have b2 : 0 ≤ 38 * p + 1 + m := by omega
      have b3 : 38 * p < 152 := by omega
      have b4 : 0 ≤ 38 * p := by omega
      have em : (m.toNat : Int) = m := by omega
      have g2 := hR2.c.proms
      have key : EX 188 (sx 188 73) [.ref 142, vI p, vI m, vI (spN S p (0 : Nat) m), vI ((0 : Nat) : Int)] [] (mkh X s dh dl t M2) Q := by
        refine lp (n := (S 78 9).toNat) (fun n => EX 188 (sx 188 73) [.ref 142, vI p, vI m, vI (spN S p n m), vI (n : Int)] [] (mkh X s dh dl t M2) Q) ?_ ?_
        · have e1 : S 78 9 ≤ (S 78 9).toNat := by omega
          rw [s_188_73]
          simp (disch := omega) only [↓x_al_0, ↓x_c, ↓pi_142_0, ↓x_il_1, ↓c_166, ↓x_eq0, ↓x_il_2, ↓c_120, ↓c_119, ↓x_ne0, ↓x_ir, ↓c_185, ↓gi_142_50, ↓c_184, ↓gr_142_14, ↓x_imul, ↓x_iadd, ↓x_isub, ↓x_is_3, ↓x_is_4, ↓x_il_4, ↓x_ge, ↓x_il_3, ↓gr_142_16, ↓gr_142_48, ↓x_ne, ↓gr_142_53, ↓x_go, ↓x_inc_4, ↓ld_149, ↓ld_151, ↓ld_166, ↓ld_168, ↓n_188, ↓s_188_0, ↓s_188_30, ↓s_188_32, ↓s_188_118, ↓s_188_119, ↓s_188_127, ↓bk_v, ↓bk_n, ↓bk_r, ↓pv_i, ↓pv_r, ↓pv_0, ↓pv_l, wz_pk, wz_ti, wz_wz, vI_wz, wz_id, wz_0, List.length_cons, List.length_nil, ↓reduceIte, true_and, and_true, Int.reduceLE, Int.reduceLT, Int.reduceEq, not_true_eq_false, not_false_eq_true, false_or, or_false, true_or, or_true, ite_not, Int.reduceNeg, Int32.reduceToInt, Nat.reduceAdd, Nat.reduceLeDiff, Nat.reduceLT, Nat.reduceEqDiff, Int.reduceAdd, Int.reduceSub, Int.reduceMul, Nat.zero_le, pk_po_ne, pk_po_eq, pk_po_ix, rI, ne_eq, g2, wz_of g2, e1, if_true]
          exact e
        · intro n hn ih
          have e1 : ¬ S 78 9 ≤ n := by omega
          have q1 := hR2.c.pd n (by omega) (by omega)
          have q4 := c78_pd hI n (by omega) (by omega)
          have u1 := hR2.h.dbt (S 87 n) q4.1 q4.2
          have sr := spN_rng hH hI h n (by omega) m (by omega) (by omega)
          obtain ⟨p1, p2, p3, p4⟩ := a2 n hn
          have v := p4 m.toNat (by omega)
          rw [em] at v
          have c1 : 3 * (n : Int) < 24 := by omega
          have c2 : 0 ≤ 3 * (n : Int) := by omega
          have c3 : 3 * S 87 n < 18 := by omega
          have c4 : 0 ≤ 3 * S 87 n := by omega
          have c5 : 36 * (n : Int) + m < 324 := by omega
          have c6 : 0 ≤ 36 * (n : Int) + m := by omega
          have esp : spN S p (n + 1) m = if S 29 (S 87 n) = p then spN S p n m - pyK S n m.toNat else spN S p n m := by
            simp only [spN]
            by_cases c : S 29 (S 87 n) = p
            · rw [if_pos c, if_pos c]
              subst c
              rfl
            · rw [if_neg c, if_neg c]
          rw [esp] at ih
          rw [s_188_73]
          by_cases c : S 29 (S 87 n) = p
          · rw [if_pos c] at ih
            simp (disch := omega) only [↓x_al_0, ↓x_c, ↓pi_142_0, ↓x_il_1, ↓c_166, ↓x_eq0, ↓x_il_2, ↓c_120, ↓c_119, ↓x_ne0, ↓x_ir, ↓c_185, ↓gi_142_50, ↓c_184, ↓gr_142_14, ↓x_imul, ↓x_iadd, ↓x_isub, ↓x_is_3, ↓x_is_4, ↓x_il_4, ↓x_ge, ↓x_il_3, ↓gr_142_16, ↓gr_142_48, ↓x_ne, ↓gr_142_53, ↓x_go, ↓x_inc_4, ↓ld_149, ↓ld_151, ↓ld_166, ↓ld_168, ↓n_188, ↓s_188_0, ↓s_188_30, ↓s_188_32, ↓s_188_118, ↓s_188_119, ↓s_188_127, ↓bk_v, ↓bk_n, ↓bk_r, ↓pv_i, ↓pv_r, ↓pv_0, ↓pv_l, wz_pk, wz_ti, wz_wz, vI_wz, wz_id, wz_0, List.length_cons, List.length_nil, ↓reduceIte, true_and, and_true, Int.reduceLE, Int.reduceLT, Int.reduceEq, not_true_eq_false, not_false_eq_true, false_or, or_false, true_or, or_true, ite_not, Int.reduceNeg, Int32.reduceToInt, Nat.reduceAdd, Nat.reduceLeDiff, Nat.reduceLT, Nat.reduceEqDiff, Int.reduceAdd, Int.reduceSub, Int.reduceMul, Nat.zero_le, pk_po_ne, pk_po_eq, pk_po_ix, rI, ne_eq, g2, wz_of g2, e1, if_false, if_true, q1, u1, wz_of u1, c, hp, v, c1, c2, c3, c4, c5, c6]
            exact ih
          · rw [if_neg c] at ih
            simp (disch := omega) only [↓x_al_0, ↓x_c, ↓pi_142_0, ↓x_il_1, ↓c_166, ↓x_eq0, ↓x_il_2, ↓c_120, ↓c_119, ↓x_ne0, ↓x_ir, ↓c_185, ↓gi_142_50, ↓c_184, ↓gr_142_14, ↓x_imul, ↓x_iadd, ↓x_isub, ↓x_is_3, ↓x_is_4, ↓x_il_4, ↓x_ge, ↓x_il_3, ↓gr_142_16, ↓gr_142_48, ↓x_ne, ↓gr_142_53, ↓x_go, ↓x_inc_4, ↓ld_149, ↓ld_151, ↓ld_166, ↓ld_168, ↓n_188, ↓s_188_0, ↓s_188_30, ↓s_188_32, ↓s_188_118, ↓s_188_119, ↓s_188_127, ↓bk_v, ↓bk_n, ↓bk_r, ↓pv_i, ↓pv_r, ↓pv_0, ↓pv_l, wz_pk, wz_ti, wz_wz, vI_wz, wz_id, wz_0, List.length_cons, List.length_nil, ↓reduceIte, true_and, and_true, Int.reduceLE, Int.reduceLT, Int.reduceEq, not_true_eq_false, not_false_eq_true, false_or, or_false, true_or, or_true, ite_not, Int.reduceNeg, Int32.reduceToInt, Nat.reduceAdd, Nat.reduceLeDiff, Nat.reduceLT, Nat.reduceEqDiff, Int.reduceAdd, Int.reduceSub, Int.reduceMul, Nat.zero_le, pk_po_ne, pk_po_eq, pk_po_ix, rI, ne_eq, g2, wz_of g2, e1, if_false, if_true, q1, u1, wz_of u1, c, hp, v, c1, c2, c3, c4, c5, c6, Int.sub_zero]
            exact ih
      simp (disch := omega) only [↓x_al_0, ↓x_c, ↓pi_142_0, ↓x_il_1, ↓c_166, ↓x_eq0, ↓x_il_2, ↓c_120, ↓c_119, ↓x_ne0, ↓x_ir, ↓c_185, ↓gi_142_50, ↓c_184, ↓gr_142_14, ↓x_imul, ↓x_iadd, ↓x_isub, ↓x_is_3, ↓x_is_4, ↓x_il_4, ↓x_ge, ↓x_il_3, ↓gr_142_16, ↓gr_142_48, ↓x_ne, ↓gr_142_53, ↓x_go, ↓x_inc_4, ↓ld_149, ↓ld_151, ↓ld_166, ↓ld_168, ↓n_188, ↓s_188_0, ↓s_188_30, ↓s_188_32, ↓s_188_118, ↓s_188_119, ↓s_188_127, ↓bk_v, ↓bk_n, ↓bk_r, ↓pv_i, ↓pv_r, ↓pv_0, ↓pv_l, wz_pk, wz_ti, wz_wz, vI_wz, wz_id, wz_0, List.length_cons, List.length_nil, ↓reduceIte, true_and, and_true, Int.reduceLE, Int.reduceLT, Int.reduceEq, not_true_eq_false, not_false_eq_true, false_or, or_false, true_or, or_true, ite_not, Int.reduceNeg, Int32.reduceToInt, Nat.reduceAdd, Nat.reduceLeDiff, Nat.reduceLT, Nat.reduceEqDiff, Int.reduceAdd, Int.reduceSub, Int.reduceMul, Nat.zero_le, pk_po_ne, pk_po_eq, pk_po_ix, rI, ne_eq, v1, v2, b1, b2, b3, b4, Int.add_zero]
      exact key
    · rw [if_neg h2]
      exact hP.no 2 (by decide) (by rw [o_spare, if_pos h, if_neg h2]) (hR0.ref (by decide)) hF0.rfM (rfM_t rfl)
  · rw [if_neg h]
    exact hP.no 1 (by decide) (by rw [o_spare, if_neg h]) (hR0.ref (by decide)) hF0.rfM (rfM_t rfl)
/-- one promise more is asked -/
def askT (S : St) (d c f : Int) : St := su (su (su S 87 (S 78 9) d) 88 (S 78 9) c) 89 (S 78 9) f
theorem askT_o {d c f : Int} {a : Nat} (ha : ¬ (a = 87 ∨ a = 88 ∨ a = 89)) : askT S d c f a = S a := by
  funext i
  unfold askT su
  grind
theorem askT_lt {d c f i : Int} (hi : i < S 78 9) (a : Nat) : askT S d c f a i = S a i := by
  unfold askT su
  grind
theorem askT_sp {d c f p : Int} : ∀ k : Nat, (k : Int) ≤ S 78 9 → spN (askT S d c f) p k = spN S p k := by
  intro k
  induction k with
  | zero =>
    intro _
    funext u
    simp only [spN, askT_o (S := S) (d := d) (c := c) (f := f) (a := 5) (by decide), askT_o (S := S) (d := d) (c := c) (f := f) (a := 4) (by decide)]
  | succ k ih =>
    intro hk
    funext u
    simp only [spN, ih (by omega), askT_lt (S := S) (d := d) (c := c) (f := f) (show (k : Int) < S 78 9 by omega), askT_o (S := S) (d := d) (c := c) (f := f) (a := 29) (by decide), askT_o (S := S) (d := d) (c := c) (f := f) (a := 30) (by decide)]
theorem hou.st {T : St} (h : hou S) (hS : ∀ a, 3 ≤ a → a < 33 → T a = S a) : hou T := by
  unfold hou at *
  simp only [hS 3 (by decide) (by decide), hS 4 (by decide) (by decide), hS 5 (by decide) (by decide), hS 10 (by decide) (by decide), hS 11 (by decide) (by decide), hS 12 (by decide) (by decide), hS 13 (by decide) (by decide), hS 14 (by decide) (by decide), hS 27 (by decide) (by decide), hS 28 (by decide) (by decide), hS 29 (by decide) (by decide), hS 30 (by decide) (by decide), hS 31 (by decide) (by decide), hS 32 (by decide) (by decide)]
  exact h
theorem R189 {d m w : Int} (hR : RR S M) (hH : hou S) (hI : crs S 78) (hd : wz d = d) (hm : wz m = m) (hw : wz w = w) (hP : PR X s dh dl t M Q cB (o_best S d m w)) : CL 189 [.ref 142, vI d, vI m, vI w] (mkh X s dh dl t M) Q := by
  have n1 := c78_proms hI
  have n3 := hH.nd
  have hR0 := hR.pw (a := 142) (i := 0) (x := 0) rfl
  have hF0 : FR M (po M 142 0 0) := FR.rfl.pw (by decide)
  simp (disch := omega) only [↓x_al_0, ↓x_c, ↓pi_142_0, ↓x_il_1, ↓c_167, ↓x_eq0, ↓x_il_2, ↓c_120, ↓x_il_3, ↓x_go, ↓c_119, ↓x_ne0, ↓x_ir, ↓c_185, ↓x_is_4, ↓x_is_5, ↓x_is_6, ↓x_il_6, ↓x_gt, ↓gr_142_58, ↓gi_142_50, ↓x_imul, ↓x_iadd, ↓c_184, ↓gr_142_55, ↓x_is_7, ↓x_il_7, ↓x_eq, ↓x_il_5, ↓x_lt, ↓x_inc_6, ↓x_il_4, ↓x_ne, ↓ld_170, ↓st_170, ↓ld_173, ↓st_173, ↓n_189, ↓s_189_0, ↓s_189_38, ↓s_189_47, ↓s_189_149, ↓s_189_157, ↓s_189_163, ↓s_189_173, ↓s_189_182, ↓bk_v, ↓bk_n, ↓bk_r, ↓pv_i, ↓pv_r, ↓pv_0, ↓pv_l, wz_pk, wz_ti, wz_wz, vI_wz, wz_id, wz_0, List.length_cons, List.length_nil, ↓reduceIte, true_and, and_true, Int.reduceLE, Int.reduceLT, Int.reduceEq, not_true_eq_false, not_false_eq_true, false_or, or_false, true_or, or_true, ite_not, Int.reduceNeg, Int32.reduceToInt, Nat.reduceAdd, Nat.reduceLeDiff, Nat.reduceLT, Nat.reduceEqDiff, Int.reduceAdd, Int.reduceSub, Int.reduceMul, Nat.zero_le, pk_po_ne, pk_po_eq, pk_po_ix, rI, ne_eq, ↓R167 (c := 1) hR0 hH hd th0 rfl (by decide), ↓R120, hm, hw, bi_wz, bi_0, decide_eq_false_iff_not, ↓R119v (M := po M 142 0 0) (c := 2) (k := 1) th0 rfl (by decide) (by decide), mrg]
  (try simp (disch := omega) only [↓x_al_0, ↓x_c, ↓pi_142_0, ↓x_il_1, ↓c_167, ↓x_eq0, ↓x_il_2, ↓c_120, ↓x_il_3, ↓x_go, ↓c_119, ↓x_ne0, ↓x_ir, ↓c_185, ↓x_is_4, ↓x_is_5, ↓x_is_6, ↓x_il_6, ↓x_gt, ↓gr_142_58, ↓gi_142_50, ↓x_imul, ↓x_iadd, ↓c_184, ↓gr_142_55, ↓x_is_7, ↓x_il_7, ↓x_eq, ↓x_il_5, ↓x_lt, ↓x_inc_6, ↓x_il_4, ↓x_ne, ↓ld_170, ↓st_170, ↓ld_173, ↓st_173, ↓n_189, ↓s_189_0, ↓s_189_38, ↓s_189_39, ↓s_189_47, ↓s_189_149, ↓s_189_157, ↓s_189_163, ↓s_189_173, ↓s_189_182, ↓bk_v, ↓bk_n, ↓bk_r, ↓pv_i, ↓pv_r, ↓pv_0, ↓pv_l, wz_pk, wz_ti, wz_wz, vI_wz, wz_id, wz_0, List.length_cons, List.length_nil, ↓reduceIte, true_and, and_true, Int.reduceLE, Int.reduceLT, Int.reduceEq, not_true_eq_false, not_false_eq_true, false_or, or_false, true_or, or_true, ite_not, Int.reduceNeg, Int32.reduceToInt, Nat.reduceAdd, Nat.reduceLeDiff, Nat.reduceLT, Nat.reduceEqDiff, Int.reduceAdd, Int.reduceSub, Int.reduceMul, Nat.zero_le, pk_po_ne, pk_po_eq, pk_po_ix, rI, ne_eq, ↓R167 (c := 1) hR0 hH hd th0 rfl (by decide), ↓R120, hm, hw, bi_wz, bi_0, decide_eq_false_iff_not, ↓R119v (M := po M 142 0 0) (c := 2) (k := 1) th0 rfl (by decide) (by decide), mrg])
  (try simp (disch := omega) only [↓x_al_0, ↓x_c, ↓pi_142_0, ↓x_il_1, ↓c_167, ↓x_eq0, ↓x_il_2, ↓c_120, ↓x_il_3, ↓x_go, ↓c_119, ↓x_ne0, ↓x_ir, ↓c_185, ↓x_is_4, ↓x_is_5, ↓x_is_6, ↓x_il_6, ↓x_gt, ↓gr_142_58, ↓gi_142_50, ↓x_imul, ↓x_iadd, ↓c_184, ↓gr_142_55, ↓x_is_7, ↓x_il_7, ↓x_eq, ↓x_il_5, ↓x_lt, ↓x_inc_6, ↓x_il_4, ↓x_ne, ↓ld_170, ↓st_170, ↓ld_173, ↓st_173, ↓n_189, ↓s_189_0, ↓s_189_38, ↓s_189_39, ↓s_189_47, ↓s_189_149, ↓s_189_157, ↓s_189_163, ↓s_189_173, ↓s_189_182, ↓s_189_184, ↓bk_v, ↓bk_n, ↓bk_r, ↓pv_i, ↓pv_r, ↓pv_0, ↓pv_l, wz_pk, wz_ti, wz_wz, vI_wz, wz_id, wz_0, List.length_cons, List.length_nil, ↓reduceIte, true_and, and_true, Int.reduceLE, Int.reduceLT, Int.reduceEq, not_true_eq_false, not_false_eq_true, false_or, or_false, true_or, or_true, ite_not, Int.reduceNeg, Int32.reduceToInt, Nat.reduceAdd, Nat.reduceLeDiff, Nat.reduceLT, Nat.reduceEqDiff, Int.reduceAdd, Int.reduceSub, Int.reduceMul, Nat.zero_le, pk_po_ne, pk_po_eq, pk_po_ix, rI, ne_eq, ↓R167 (c := 1) hR0 hH hd th0 rfl (by decide), ↓R120, hm, hw, bi_wz, bi_0, decide_eq_false_iff_not, ↓R119v (M := po M 142 0 0) (c := 2) (k := 1) th0 rfl (by decide) (by decide), mrg])
  by_cases h : 0 ≤ d ∧ d < S 3 2
  · rw [if_pos h]
    by_cases h2 : (0 ≤ m ∧ m ≤ 35) ∧ (0 ≤ w ∧ w ≤ 1)
    · simp only [h2.1, h2.2, and_self, if_true, not_true_eq_false, if_false]
      rw [if_neg (by decide), s_189_49]
      simp only [↓x_al_0, ↓x_c, ↓pi_142_0, ↓x_il_1, ↓c_167, ↓x_eq0, ↓x_il_2, ↓c_120, ↓x_il_3, ↓x_go, ↓c_119, ↓x_ne0, ↓x_ir, ↓c_185, ↓x_is_4, ↓x_is_5, ↓x_is_6, ↓x_il_6, ↓x_gt, ↓gr_142_58, ↓gi_142_50, ↓x_imul, ↓x_iadd, ↓c_184, ↓gr_142_55, ↓x_is_7, ↓x_il_7, ↓x_eq, ↓x_il_5, ↓x_lt, ↓x_inc_6, ↓x_il_4, ↓x_ne, ↓ld_170, ↓st_170, ↓ld_173, ↓st_173, ↓n_189, ↓s_189_0, ↓s_189_38, ↓s_189_39, ↓s_189_47, ↓s_189_49, ↓s_189_149, ↓s_189_157, ↓s_189_163, ↓s_189_173, ↓s_189_182, ↓s_189_184, ↓bk_v, ↓bk_n, ↓bk_r, ↓pv_i, ↓pv_r, ↓pv_0, ↓pv_l, wz_pk, wz_ti, wz_wz, vI_wz, wz_id, wz_0, List.length_cons, List.length_nil, ↓reduceIte, true_and, and_true, Int.reduceLE, Int.reduceLT, Int.reduceEq, not_true_eq_false, not_false_eq_true, false_or, or_false, true_or, or_true, ite_not, Int.reduceNeg, Int32.reduceToInt, Nat.reduceAdd, Nat.reduceLeDiff, Nat.reduceLT, Nat.reduceEqDiff, Int.reduceAdd, Int.reduceSub, Int.reduceMul, Nat.zero_le, pk_po_ne, pk_po_eq, pk_po_ix, rI, ne_eq]
      refine R185 hR0 hI ?_
      intro M1 f1 a1
      have s1 : SF (po M 142 0 0) M1 := SF.rfl.row (n := 173) (by decide) f1
      have hamt := hH.amt d h.1 h.2
      have e := fun M' hR' hF' ht' => hP.ok (M' := M') (by rw [o_best, if_pos h, if_pos h2]) hR' hF' ht'
      have key : ∀ M2, SF (po M 142 0 0) M2 → AK S M2 (S 78 9).toNat → ∀ z, EX 189 (sx 189 63) [.ref 142, vI d, vI m, vI w, vI (bsN (spN S (S 29 d) (S 78 9).toNat) (S 30 d) m (0 : Nat)).1, vI (if (bsN (spN S (S 29 d) (S 78 9).toNat) (S 30 d) m (0 : Nat)).2 = -1 then 36 else (bsN (spN S (S 29 d) (S 78 9).toNat) (S 30 d) m (0 : Nat)).2), vI ((0 : Nat) + 1 : Int), z] [] (mkh X s dh dl t M2) Q := by
        refine lp (n := 999) (fun n => ∀ M2, SF (po M 142 0 0) M2 → AK S M2 (S 78 9).toNat → ∀ z, EX 189 (sx 189 63) [.ref 142, vI d, vI m, vI w, vI (bsN (spN S (S 29 d) (S 78 9).toNat) (S 30 d) m n).1, vI (if (bsN (spN S (S 29 d) (S 78 9).toNat) (S 30 d) m n).2 = -1 then 36 else (bsN (spN S (S 29 d) (S 78 9).toNat) (S 30 d) m n).2), vI ((n : Int) + 1), z] [] (mkh X s dh dl t M2) Q) ?_ ?_
        · intro M2 s2 a2 z
          have e := e M2 (hR0.sf s2) (hF0.trans s2.1) (by rw [s2.th]; exact th0)
          have br := bs_rng (sp := spN S (S 29 d) (S 78 9).toNat) (a := S 30 d) (f := m) (by omega) (by omega) 999
          generalize bsN (spN S (S 29 d) (S 78 9).toNat) (S 30 d) m 999 = q at *
          obtain ⟨q1, q2⟩ := q
          simp only at br e ⊢
          have e1 : (999 : Int) < ((999 : Nat) : Int) + 1 := by omega
          have wq : wz q1 = q1 := wz_id (by omega) (by omega)
          rw [s_189_63]
          simp (disch := omega) only [↓x_al_0, ↓x_c, ↓pi_142_0, ↓x_il_1, ↓c_167, ↓x_eq0, ↓x_il_2, ↓c_120, ↓x_il_3, ↓x_go, ↓c_119, ↓x_ne0, ↓x_ir, ↓c_185, ↓x_is_4, ↓x_is_5, ↓x_is_6, ↓x_il_6, ↓x_gt, ↓gr_142_58, ↓gi_142_50, ↓x_imul, ↓x_iadd, ↓c_184, ↓gr_142_55, ↓x_is_7, ↓x_il_7, ↓x_eq, ↓x_il_5, ↓x_lt, ↓x_inc_6, ↓x_il_4, ↓x_ne, ↓ld_170, ↓st_170, ↓ld_173, ↓st_173, ↓n_189, ↓s_189_0, ↓s_189_38, ↓s_189_47, ↓s_189_49, ↓s_189_149, ↓s_189_157, ↓s_189_163, ↓s_189_173, ↓s_189_182, ↓bk_v, ↓bk_n, ↓bk_r, ↓pv_i, ↓pv_r, ↓pv_0, ↓pv_l, wz_pk, wz_ti, wz_wz, vI_wz, wz_id, wz_0, List.length_cons, List.length_nil, ↓reduceIte, true_and, and_true, Int.reduceLE, Int.reduceLT, Int.reduceEq, not_true_eq_false, not_false_eq_true, false_or, or_false, true_or, or_true, ite_not, Int.reduceNeg, Int32.reduceToInt, Nat.reduceAdd, Nat.reduceLeDiff, Nat.reduceLT, Nat.reduceEqDiff, Int.reduceAdd, Int.reduceSub, Int.reduceMul, Nat.zero_le, pk_po_ne, pk_po_eq, pk_po_ix, rI, ne_eq, e1, if_true, wq, hw, mrg]
          (try simp (disch := omega) only [↓x_al_0, ↓x_c, ↓pi_142_0, ↓x_il_1, ↓c_167, ↓x_eq0, ↓x_il_2, ↓c_120, ↓x_il_3, ↓x_go, ↓c_119, ↓x_ne0, ↓x_ir, ↓c_185, ↓x_is_4, ↓x_is_5, ↓x_is_6, ↓x_il_6, ↓x_gt, ↓gr_142_58, ↓gi_142_50, ↓x_imul, ↓x_iadd, ↓c_184, ↓gr_142_55, ↓x_is_7, ↓x_il_7, ↓x_eq, ↓x_il_5, ↓x_lt, ↓x_inc_6, ↓x_il_4, ↓x_ne, ↓ld_170, ↓st_170, ↓ld_173, ↓st_173, ↓n_189, ↓s_189_0, ↓s_189_38, ↓s_189_39, ↓s_189_47, ↓s_189_49, ↓s_189_149, ↓s_189_157, ↓s_189_163, ↓s_189_173, ↓s_189_182, ↓bk_v, ↓bk_n, ↓bk_r, ↓pv_i, ↓pv_r, ↓pv_0, ↓pv_l, wz_pk, wz_ti, wz_wz, vI_wz, wz_id, wz_0, List.length_cons, List.length_nil, ↓reduceIte, true_and, and_true, Int.reduceLE, Int.reduceLT, Int.reduceEq, not_true_eq_false, not_false_eq_true, false_or, or_false, true_or, or_true, ite_not, Int.reduceNeg, Int32.reduceToInt, Nat.reduceAdd, Nat.reduceLeDiff, Nat.reduceLT, Nat.reduceEqDiff, Int.reduceAdd, Int.reduceSub, Int.reduceMul, Nat.zero_le, pk_po_ne, pk_po_eq, pk_po_ix, rI, ne_eq, e1, if_true, wq, hw, mrg])
          (try simp (disch := omega) only [↓x_al_0, ↓x_c, ↓pi_142_0, ↓x_il_1, ↓c_167, ↓x_eq0, ↓x_il_2, ↓c_120, ↓x_il_3, ↓x_go, ↓c_119, ↓x_ne0, ↓x_ir, ↓c_185, ↓x_is_4, ↓x_is_5, ↓x_is_6, ↓x_il_6, ↓x_gt, ↓gr_142_58, ↓gi_142_50, ↓x_imul, ↓x_iadd, ↓c_184, ↓gr_142_55, ↓x_is_7, ↓x_il_7, ↓x_eq, ↓x_il_5, ↓x_lt, ↓x_inc_6, ↓x_il_4, ↓x_ne, ↓ld_170, ↓st_170, ↓ld_173, ↓st_173, ↓n_189, ↓s_189_0, ↓s_189_38, ↓s_189_39, ↓s_189_47, ↓s_189_49, ↓s_189_149, ↓s_189_157, ↓s_189_163, ↓s_189_173, ↓s_189_182, ↓s_189_184, ↓bk_v, ↓bk_n, ↓bk_r, ↓pv_i, ↓pv_r, ↓pv_0, ↓pv_l, wz_pk, wz_ti, wz_wz, vI_wz, wz_id, wz_0, List.length_cons, List.length_nil, ↓reduceIte, true_and, and_true, Int.reduceLE, Int.reduceLT, Int.reduceEq, not_true_eq_false, not_false_eq_true, false_or, or_false, true_or, or_true, ite_not, Int.reduceNeg, Int32.reduceToInt, Nat.reduceAdd, Nat.reduceLeDiff, Nat.reduceLT, Nat.reduceEqDiff, Int.reduceAdd, Int.reduceSub, Int.reduceMul, Nat.zero_le, pk_po_ne, pk_po_eq, pk_po_ix, rI, ne_eq, e1, if_true, wq, hw, mrg])
          rcases br with ⟨rfl, rfl⟩ | br
          · have : w = 0 ∨ w = 1 := by omega
            rcases this with rfl | rfl <;> simpa using e
          · have o1 : ¬ q1 = -1 := by omega
            have o2 : ¬ q2 = -1 := by omega
            have : w = 0 ∨ w = 1 := by omega
            rcases this with rfl | rfl <;> simpa [o1, o2] using e
        · intro n hn ih M2 s2 a2 z
          have hR2 := hR0.sf s2
          have g2 := hR2.c.proms
          have e1 : ¬ (999 : Int) < (n : Int) + 1 := by omega
          have b1 : 3 * S 78 9 < 27 := by omega
          have b2 : 0 ≤ 3 * S 78 9 := by omega
          have b3 : 3 * S 78 9 + 1 < 27 := by omega
          have b4 : 0 ≤ 3 * S 78 9 + 1 := by omega
          have b5 : 3 * S 78 9 + 2 < 27 := by omega
          have b6 : 0 ≤ 3 * S 78 9 + 2 := by omega
          have b7 : S 78 9 < 9 := by omega
          have b8 : 0 ≤ S 78 9 := by omega
          have eN : S 78 9 = ((S 78 9).toNat : Int) := by omega
          have s3 : SF (po M 142 0 0) (po (po (po M2 173 (3 * S 78 9) d) 173 (3 * S 78 9 + 1) ((n : Int) + 1)) 173 (3 * S 78 9 + 2) m) := ((s2.pw (by decide) rfl (by omega)).pw (by decide) rfl (by omega)).pw (by decide) rfl (by omega)
          have o1 : ∀ {a : Nat}, ¬ (a = 87 ∨ a = 88 ∨ a = 89) → askT S d ((n : Int) + 1) m a = S a := fun h => askT_o h
          have a3 : AK (askT S d ((n : Int) + 1) m) (po (po (po M2 173 (3 * S 78 9) d) 173 (3 * S 78 9 + 1) ((n : Int) + 1)) 173 (3 * S 78 9 + 2) m) ((S 78 9).toNat + 1) := by
            intro k hk
            by_cases hkn : (k : Int) < S 78 9
            · simp only [askT_lt (S := S) (d := d) (c := (n : Int) + 1) (f := m) hkn, o1 (a := 3) (by decide)]
              rw [pk_po_ix (by omega), pk_po_ix (by omega), pk_po_ix (by omega), pk_po_ix (by omega), pk_po_ix (by omega), pk_po_ix (by omega), pk_po_ix (by omega), pk_po_ix (by omega), pk_po_ix (by omega)]
              exact a2 k (by omega)
            · have hke : (k : Int) = S 78 9 := by omega
              rw [hke]
              have e87 : askT S d ((n : Int) + 1) m 87 (S 78 9) = d := by simp [askT, su]
              have e88 : askT S d ((n : Int) + 1) m 88 (S 78 9) = (n : Int) + 1 := by simp [askT, su]
              have e89 : askT S d ((n : Int) + 1) m 89 (S 78 9) = m := by simp [askT, su]
              rw [e87, e88, e89, o1 (a := 3) (by decide)]
              refine ⟨?_, ?_, ?_, h, ⟨by omega, by omega⟩, h2.1⟩
              · rw [pk_po_ix (by omega), pk_po_ix (by omega), pk_po_eq]; exact hd
              · rw [pk_po_ix (by omega), pk_po_eq]; exact wz_id (by omega) (by omega)
              · rw [pk_po_eq]; exact hm
          have hH3 : hou (askT S d ((n : Int) + 1) m) := hH.st (fun a _ _ => o1 (by omega))
          have hRh3 : RRh (askT S d ((n : Int) + 1) m) (po (po (po M2 173 (3 * S 78 9) d) 173 (3 * S 78 9 + 1) ((n : Int) + 1)) 173 (3 * S 78 9 + 2) m) := (hR0.sf s3).h.st (fun a _ _ => o1 (by omega))
          rw [s_189_63]
          simp (disch := omega) only [↓x_al_0, ↓x_c, ↓pi_142_0, ↓x_il_1, ↓c_167, ↓x_eq0, ↓x_il_2, ↓c_120, ↓x_il_3, ↓x_go, ↓c_119, ↓x_ne0, ↓x_ir, ↓c_185, ↓x_is_4, ↓x_is_5, ↓x_is_6, ↓x_il_6, ↓x_gt, ↓gr_142_58, ↓gi_142_50, ↓x_imul, ↓x_iadd, ↓c_184, ↓gr_142_55, ↓x_is_7, ↓x_il_7, ↓x_eq, ↓x_il_5, ↓x_lt, ↓x_inc_6, ↓x_il_4, ↓x_ne, ↓ld_170, ↓st_170, ↓ld_173, ↓st_173, ↓n_189, ↓s_189_0, ↓s_189_38, ↓s_189_39, ↓s_189_47, ↓s_189_49, ↓s_189_149, ↓s_189_157, ↓s_189_163, ↓s_189_173, ↓s_189_182, ↓s_189_184, ↓bk_v, ↓bk_n, ↓bk_r, ↓pv_i, ↓pv_r, ↓pv_0, ↓pv_l, wz_pk, wz_ti, wz_wz, vI_wz, wz_id, wz_0, List.length_cons, List.length_nil, ↓reduceIte, true_and, and_true, Int.reduceLE, Int.reduceLT, Int.reduceEq, not_true_eq_false, not_false_eq_true, false_or, or_false, true_or, or_true, ite_not, Int.reduceNeg, Int32.reduceToInt, Nat.reduceAdd, Nat.reduceLeDiff, Nat.reduceLT, Nat.reduceEqDiff, Int.reduceAdd, Int.reduceSub, Int.reduceMul, Nat.zero_le, pk_po_ne, pk_po_eq, pk_po_ix, rI, ne_eq, g2, wz_of g2, e1, if_false, b1, b2, b3, b4, b5, b6]
          rw [show S 78 9 + 1 = (((S 78 9).toNat + 1 : Nat) : Int) by omega]
          refine R184 hH3 hRh3 a3 (by omega) ?_
          intro M4 f4 a4
          have s4 := s3.fxs f4 rfl
          have g4 := (hR0.sf s4).c.proms
          obtain ⟨p1, p2, p3, p4⟩ := a4 (S 78 9).toNat (by omega)
          rw [← eN] at p3
          have e5 : pmK (askT S d ((n : Int) + 1) m) (S 78 9).toNat 36 = pmN (S 30 d) ((n : Int) + 1) m (spN S (S 29 d) (S 78 9).toNat) 36 := by
            unfold pmK
            rw [← eN, askT_sp _ (by omega), o1 (a := 30) (by decide), o1 (a := 29) (by decide)]
            simp [askT, su]
          rw [e5, pm_done (by omega) (by omega) h2.1] at p3
          have a5 : AK S M4 (S 78 9).toNat := by
            have a6 : AK S (po (po (po M2 173 (3 * S 78 9) d) 173 (3 * S 78 9 + 1) ((n : Int) + 1)) 173 (3 * S 78 9 + 2) m) (S 78 9).toNat := by
              intro k hk
              rw [pk_po_ix (by omega), pk_po_ix (by omega), pk_po_ix (by omega), pk_po_ix (by omega), pk_po_ix (by omega), pk_po_ix (by omega), pk_po_ix (by omega), pk_po_ix (by omega), pk_po_ix (by omega)]
              exact a2 k hk
            exact a6.fr f4
          have ih2 := ih M4 s4 a5
          have br := bs_rng (sp := spN S (S 29 d) (S 78 9).toNat) (a := S 30 d) (f := m) (by omega) (by omega) n
          have kn : 0 ≤ doneA (S 30 d) ((n : Int) + 1) m := by unfold doneA; have : 0 ≤ (S 30 d - 1) / ((n : Int) + 1) := Int.ediv_nonneg (by omega) (by omega); omega
          rw [show ((n + 1 : Nat) : Int) + 1 = (n : Int) + 1 + 1 by omega] at ih2
          obtain ⟨D, hD⟩ : ∃ D, D = doneA (S 30 d) ((n : Int) + 1) m := ⟨_, rfl⟩
          obtain ⟨W, hW⟩ : ∃ W, W = wouldB (spN S (S 29 d) (S 78 9).toNat) (S 30 d) ((n : Int) + 1) m := ⟨_, rfl⟩
          obtain ⟨q1, q2, hq⟩ : ∃ q1 q2, bsN (spN S (S 29 d) (S 78 9).toNat) (S 30 d) m n = (q1, q2) := ⟨_, _, rfl⟩
          have eb : bsN (spN S (S 29 d) (S 78 9).toNat) (S 30 d) m (n + 1) = if D < 36 ∧ (q2 = -1 ∨ D < q2) ∧ W = true then ((n : Int) + 1, D) else (q1, q2) := by
            subst hD hW
            simp only [bsN]
            rw [hq]
          rw [hq] at br ⊢
          rw [← hD, ← hW] at p3
          rw [← hD] at kn
          simp only at br ⊢
          by_cases cW : D < 36 ∧ W = true
          · rw [if_pos cW] at p3
            have c0 : ¬ D = -1 := by omega
            by_cases c2 : q2 = -1 ∨ D < q2
            · rw [if_pos ⟨cW.1, c2, cW.2⟩] at eb
              rw [eb] at ih2
              have c3 : ¬ (if q2 = -1 then 36 else q2) ≤ D := by split <;> omega
              have c4 : wz (if q2 = -1 then 36 else q2) = (if q2 = -1 then 36 else q2) := by split <;> (apply wz_id <;> omega)
              simp only [c0, if_false] at ih2
              simp (disch := omega) only [↓x_al_0, ↓x_c, ↓pi_142_0, ↓x_il_1, ↓c_167, ↓x_eq0, ↓x_il_2, ↓c_120, ↓x_il_3, ↓x_go, ↓c_119, ↓x_ne0, ↓x_ir, ↓c_185, ↓x_is_4, ↓x_is_5, ↓x_is_6, ↓x_il_6, ↓x_gt, ↓gr_142_58, ↓gi_142_50, ↓x_imul, ↓x_iadd, ↓c_184, ↓gr_142_55, ↓x_is_7, ↓x_il_7, ↓x_eq, ↓x_il_5, ↓x_lt, ↓x_inc_6, ↓x_il_4, ↓x_ne, ↓ld_170, ↓st_170, ↓ld_173, ↓st_173, ↓n_189, ↓s_189_0, ↓s_189_38, ↓s_189_39, ↓s_189_47, ↓s_189_49, ↓s_189_149, ↓s_189_157, ↓s_189_163, ↓s_189_173, ↓s_189_182, ↓s_189_184, ↓bk_v, ↓bk_n, ↓bk_r, ↓pv_i, ↓pv_r, ↓pv_0, ↓pv_l, wz_pk, wz_ti, wz_wz, vI_wz, wz_id, wz_0, List.length_cons, List.length_nil, ↓reduceIte, true_and, and_true, Int.reduceLE, Int.reduceLT, Int.reduceEq, not_true_eq_false, not_false_eq_true, false_or, or_false, true_or, or_true, ite_not, Int.reduceNeg, Int32.reduceToInt, Nat.reduceAdd, Nat.reduceLeDiff, Nat.reduceLT, Nat.reduceEqDiff, Int.reduceAdd, Int.reduceSub, Int.reduceMul, Nat.zero_le, pk_po_ne, pk_po_eq, pk_po_ix, rI, ne_eq, g4, p3, b7, b8, c0, if_false, c3, c4]
              rw [if_pos (show D < (if q2 = -1 then 36 else q2) by split <;> omega)]
              exact ih2 _
            · rw [if_neg (fun x => c2 x.2.1)] at eb
              rw [eb] at ih2
              have c3 : (if q2 = -1 then 36 else q2) ≤ D := by split <;> omega
              have c4 : wz (if q2 = -1 then 36 else q2) = (if q2 = -1 then 36 else q2) := by split <;> (apply wz_id <;> omega)
              simp (disch := omega) only [↓x_al_0, ↓x_c, ↓pi_142_0, ↓x_il_1, ↓c_167, ↓x_eq0, ↓x_il_2, ↓c_120, ↓x_il_3, ↓x_go, ↓c_119, ↓x_ne0, ↓x_ir, ↓c_185, ↓x_is_4, ↓x_is_5, ↓x_is_6, ↓x_il_6, ↓x_gt, ↓gr_142_58, ↓gi_142_50, ↓x_imul, ↓x_iadd, ↓c_184, ↓gr_142_55, ↓x_is_7, ↓x_il_7, ↓x_eq, ↓x_il_5, ↓x_lt, ↓x_inc_6, ↓x_il_4, ↓x_ne, ↓ld_170, ↓st_170, ↓ld_173, ↓st_173, ↓n_189, ↓s_189_0, ↓s_189_38, ↓s_189_39, ↓s_189_47, ↓s_189_49, ↓s_189_149, ↓s_189_157, ↓s_189_163, ↓s_189_173, ↓s_189_182, ↓s_189_184, ↓bk_v, ↓bk_n, ↓bk_r, ↓pv_i, ↓pv_r, ↓pv_0, ↓pv_l, wz_pk, wz_ti, wz_wz, vI_wz, wz_id, wz_0, List.length_cons, List.length_nil, ↓reduceIte, true_and, and_true, Int.reduceLE, Int.reduceLT, Int.reduceEq, not_true_eq_false, not_false_eq_true, false_or, or_false, true_or, or_true, ite_not, Int.reduceNeg, Int32.reduceToInt, Nat.reduceAdd, Nat.reduceLeDiff, Nat.reduceLT, Nat.reduceEqDiff, Int.reduceAdd, Int.reduceSub, Int.reduceMul, Nat.zero_le, pk_po_ne, pk_po_eq, pk_po_ix, rI, ne_eq, g4, p3, b7, b8, c0, if_false, c3, c4, if_true]
              rw [if_neg (show ¬ D < (if q2 = -1 then 36 else q2) by split <;> omega)]
              exact ih2 _
          · rw [if_neg cW] at p3
            rw [if_neg (fun x => cW ⟨x.1, x.2.2⟩)] at eb
            rw [eb] at ih2
            simp (disch := omega) only [↓x_al_0, ↓x_c, ↓pi_142_0, ↓x_il_1, ↓c_167, ↓x_eq0, ↓x_il_2, ↓c_120, ↓x_il_3, ↓x_go, ↓c_119, ↓x_ne0, ↓x_ir, ↓c_185, ↓x_is_4, ↓x_is_5, ↓x_is_6, ↓x_il_6, ↓x_gt, ↓gr_142_58, ↓gi_142_50, ↓x_imul, ↓x_iadd, ↓c_184, ↓gr_142_55, ↓x_is_7, ↓x_il_7, ↓x_eq, ↓x_il_5, ↓x_lt, ↓x_inc_6, ↓x_il_4, ↓x_ne, ↓ld_170, ↓st_170, ↓ld_173, ↓st_173, ↓n_189, ↓s_189_0, ↓s_189_38, ↓s_189_39, ↓s_189_47, ↓s_189_49, ↓s_189_149, ↓s_189_157, ↓s_189_163, ↓s_189_173, ↓s_189_182, ↓s_189_184, ↓bk_v, ↓bk_n, ↓bk_r, ↓pv_i, ↓pv_r, ↓pv_0, ↓pv_l, wz_pk, wz_ti, wz_wz, vI_wz, wz_id, wz_0, List.length_cons, List.length_nil, ↓reduceIte, true_and, and_true, Int.reduceLE, Int.reduceLT, Int.reduceEq, not_true_eq_false, not_false_eq_true, false_or, or_false, true_or, or_true, ite_not, Int.reduceNeg, Int32.reduceToInt, Nat.reduceAdd, Nat.reduceLeDiff, Nat.reduceLT, Nat.reduceEqDiff, Int.reduceAdd, Int.reduceSub, Int.reduceMul, Nat.zero_le, pk_po_ne, pk_po_eq, pk_po_ix, rI, ne_eq, g4, p3, b7, b8, if_true]
            exact ih2 _
      have key := key M1 s1 a1 .null
      simp only [bsN, if_true] at key
      simp only [↓x_al_0, ↓x_c, ↓pi_142_0, ↓x_il_1, ↓c_167, ↓x_eq0, ↓x_il_2, ↓c_120, ↓x_il_3, ↓x_go, ↓c_119, ↓x_ne0, ↓x_ir, ↓c_185, ↓x_is_4, ↓x_is_5, ↓x_is_6, ↓x_il_6, ↓x_gt, ↓gr_142_58, ↓gi_142_50, ↓x_imul, ↓x_iadd, ↓c_184, ↓gr_142_55, ↓x_is_7, ↓x_il_7, ↓x_eq, ↓x_il_5, ↓x_lt, ↓x_inc_6, ↓x_il_4, ↓x_ne, ↓ld_170, ↓st_170, ↓ld_173, ↓st_173, ↓n_189, ↓s_189_0, ↓s_189_38, ↓s_189_39, ↓s_189_47, ↓s_189_49, ↓s_189_149, ↓s_189_157, ↓s_189_163, ↓s_189_173, ↓s_189_182, ↓s_189_184, ↓bk_v, ↓bk_n, ↓bk_r, ↓pv_i, ↓pv_r, ↓pv_0, ↓pv_l, wz_pk, wz_ti, wz_wz, vI_wz, wz_id, wz_0, List.length_cons, List.length_nil, ↓reduceIte, true_and, and_true, Int.reduceLE, Int.reduceLT, Int.reduceEq, not_true_eq_false, not_false_eq_true, false_or, or_false, true_or, or_true, ite_not, Int.reduceNeg, Int32.reduceToInt, Nat.reduceAdd, Nat.reduceLeDiff, Nat.reduceLT, Nat.reduceEqDiff, Int.reduceAdd, Int.reduceSub, Int.reduceMul, Nat.zero_le, pk_po_ne, pk_po_eq, pk_po_ix, rI, ne_eq]
      exact key
    · have e0 : ¬ ((0 ≤ m ∧ m ≤ 35) ∧ (0 ≤ w ∧ w ≤ 1)) := h2
      have e := fun v => hP.no (v := v) 2 (by decide) (by rw [o_best, if_pos h, if_neg h2]) (hR0.ref (c := 2) (k := 1) (by decide)) hF0.rfM (rfM_t rfl)
      clear hP hR hR0 hH hI hF0
      by_cases c1 : 0 ≤ m ∧ m ≤ 35
      · have c2 : ¬ (0 ≤ w ∧ w ≤ 1) := fun x => h2 ⟨c1, x⟩
        simp only [c1, c2, and_self, if_true, if_false, not_true_eq_false, not_false_eq_true, wz_0]
        exact e _
      · simp only [c1, if_true, if_false, not_true_eq_false, not_false_eq_true, wz_0]
        exact e _
  · rw [if_neg h]
    exact hP.no 1 (by decide) (by rw [o_best, if_neg h]) (hR0.ref (by decide)) hF0.rfM (rfM_t rfl)
end R69
