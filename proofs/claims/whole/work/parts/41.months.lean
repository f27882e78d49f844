section C41
variable {Q : MOut → MHp → Prop} {X : Nat × (Nat → Int32)} {s : Bool × Bool} {dh dl t : Nat} {M : Mem} {S : St}
theorem C57 {i a c f : Int} {sp : Int → Int} (hi : 0 ≤ i ∧ i < 8) (ha : 1 ≤ a ∧ a ≤ 9999) (hc : 1 ≤ c ∧ c ≤ 999) (hf : 0 ≤ f ∧ f ≤ 35) (hs : ∀ u, 0 ≤ u → u < 36 → pk M 96 u = sp u) (hb : ∀ u, 0 ≤ u → u < 36 → -999 ≤ sp u ∧ sp u ≤ 999)
    (hQ : ∀ M', fx [96, 97, 98, 99] M M' → (∀ u, 0 ≤ u → u < 36 → pk M' 96 u = sp u - pyN a c f sp u.toNat) → pk M' 97 i = (pmN a c f sp 36).2.1 → pk M' 98 i = (pmN a c f sp 36).2.2 → pk M' 99 i = a - (pmN a c f sp 36).1 → (∀ j, j ≠ i → pk M' 97 j = pk M 97 j ∧ pk M' 98 j = pk M 98 j ∧ pk M' 99 j = pk M 99 j) → Q (.inl none) (mkh X s dh dl t M')) :
    CL 57 [.ref 95, vI i, vI a, vI c, vI f] (mkh X s dh dl t M) Q := by
  have h8 : i < 8 := hi.2
  have h0 : (0 : Int) ≤ i := hi.1
  -- the end of it: from month m on nothing more is paid
  have fin : ∀ (m : Nat) (bb : Value) (T : Int) (M' : Mem), m ≤ 36 → (m = 36 ∨ (pmN a c f sp m).1 = 0 ∨ ¬ (pmN a c f sp m).2.1 = -1) → fx [96, 97, 98, 99] M M' → (∀ u, 0 ≤ u → u < 36 → pk M' 96 u = if u < m then sp u - pyN a c f sp u.toNat else sp u) → pk M' 97 i = (pmN a c f sp m).2.1 → pk M' 98 i = (pmN a c f sp m).2.2 → (∀ j, j ≠ i → pk M' 97 j = pk M 97 j ∧ pk M' 98 j = pk M 98 j ∧ pk M' 99 j = pk M 99 j) → EX 57 (sx 57 102) [.ref 95, vI i, vI a, vI c, vI f, vI (pmN a c f sp m).1, vI T, bb] [] (mkh X s dh dl t M') Q := by
    intro m bb T M' hm hst fr a1 a2 a3 a4
    have hr := pm_rng (a := a) (c := c) (f := f) (sp := sp) (by omega) hc.1 m
    have e36 : pmN a c f sp 36 = pmN a c f sp m := by
      rcases hst with h | h
      · rw [h]
      · have := pm_stop h (36 - m)
        rw [show m + (36 - m) = 36 by omega] at this
        exact this
    have e := hQ (po M' 99 i (a - (pmN a c f sp m).1)) (fr.pw (by decide)) (fun u u1 u2 => by
      rw [pk_po_ne (by decide), a1 u u1 u2]
      split
      · rfl
      · rename_i h9
        have hst2 : (pmN a c f sp m).1 = 0 ∨ ¬ (pmN a c f sp m).2.1 = -1 := by omega
        have q1 := pm_stop hst2 (u.toNat - m)
        have q2 := pm_stop hst2 (u.toNat + 1 - m)
        rw [show m + (u.toNat - m) = u.toNat by omega] at q1
        rw [show m + (u.toNat + 1 - m) = u.toNat + 1 by omega] at q2
        unfold pyN
        rw [q1, q2]
        omega) (by rw [pk_po_ne (by decide), e36]; exact a2) (by rw [pk_po_ne (by decide), e36]; exact a3) (by rw [pk_po_eq, e36]; exact wz_id (by omega) (by omega)) (fun j hj => by
      rw [pk_po_ne (by decide), pk_po_ne (by decide), pk_po_ix hj]
      exact a4 j hj)
    rw [s_57_102]
    simp (disch := omega) only [↓x_al_0, ↓gr_95_1, ↓x_il_1, ↓x_c, ↓gr_95_2, ↓x_il_2, ↓x_is_5, ↓x_il_4, ↓x_is_6, ↓x_il_6, ↓x_ge, ↓x_il_5, ↓x_le0, ↓x_il_3, ↓x_mm0, ↓x_is_7, ↓gr_95_0, ↓x_il_7, ↓x_go, ↓x_dup2, ↓x_isub, ↓x_ne0, ↓x_inc_6, ↓gr_95_3, ↓x_rt, ↓ld_96, ↓st_96, ↓ld_97, ↓st_97, ↓ld_98, ↓st_98, ↓ld_99, ↓st_99, ↓n_57, ↓s_57_0, ↓s_57_64, ↓s_57_96, ↓s_57_102, ↓pv_i, ↓pv_r, ↓pv_0, ↓pv_l, wz_pk, wz_ti, wz_wz, vI_wz, wz_id, wz_0, List.length_cons, List.length_nil, ↓reduceIte, true_and, and_true, Int.reduceLE, Int.reduceLT, Int.reduceEq, not_true_eq_false, not_false_eq_true, false_or, or_false, true_or, or_true, ite_not, Int.reduceNeg, Int32.reduceToInt, Nat.reduceAdd, Nat.reduceLeDiff, Nat.reduceLT, Nat.reduceEqDiff, Int.reduceAdd, Int.reduceSub, Int.reduceMul, Nat.zero_le, pk_po_ne, pk_po_eq, pk_po_ix, rI, ne_eq, h8, h0]
    exact e
  have key : ∀ n : Nat, ∀ m : Nat, m + n = 36 → f ≤ m → ∀ (bb : Value) (M' : Mem), (pmN a c f sp m).2.1 = -1 → fx [96, 97, 98, 99] M M' → (∀ u, 0 ≤ u → u < 36 → pk M' 96 u = if u < m then sp u - pyN a c f sp u.toNat else sp u) → pk M' 97 i = (pmN a c f sp m).2.1 → pk M' 98 i = (pmN a c f sp m).2.2 → (∀ j, j ≠ i → pk M' 97 j = pk M 97 j ∧ pk M' 98 j = pk M 98 j ∧ pk M' 99 j = pk M 99 j) → EX 57 (sx 57 21) [.ref 95, vI i, vI a, vI c, vI f, vI (pmN a c f sp m).1, vI m, bb] [] (mkh X s dh dl t M') Q := by
    intro n
    induction n with
    | zero =>
      intro m hm hfm bb M' hbk fr a1 a2 a3 a4
      have e1 : (36 : Int) ≤ m := by omega
      have := fin m bb m M' (by omega) (Or.inl (by omega)) fr a1 a2 a3 a4
      rw [s_57_21]
      simp (disch := omega) only [↓x_al_0, ↓gr_95_1, ↓x_il_1, ↓x_c, ↓gr_95_2, ↓x_il_2, ↓x_is_5, ↓x_il_4, ↓x_is_6, ↓x_il_6, ↓x_ge, ↓x_il_5, ↓x_le0, ↓x_il_3, ↓x_mm0, ↓x_is_7, ↓gr_95_0, ↓x_il_7, ↓x_go, ↓x_dup2, ↓x_isub, ↓x_ne0, ↓x_inc_6, ↓gr_95_3, ↓x_rt, ↓ld_96, ↓st_96, ↓ld_97, ↓st_97, ↓ld_98, ↓st_98, ↓ld_99, ↓st_99, ↓n_57, ↓s_57_0, ↓s_57_64, ↓s_57_96, ↓pv_i, ↓pv_r, ↓pv_0, ↓pv_l, wz_pk, wz_ti, wz_wz, vI_wz, wz_id, wz_0, List.length_cons, List.length_nil, ↓reduceIte, true_and, and_true, Int.reduceLE, Int.reduceLT, Int.reduceEq, not_true_eq_false, not_false_eq_true, false_or, or_false, true_or, or_true, ite_not, Int.reduceNeg, Int32.reduceToInt, Nat.reduceAdd, Nat.reduceLeDiff, Nat.reduceLT, Nat.reduceEqDiff, Int.reduceAdd, Int.reduceSub, Int.reduceMul, Nat.zero_le, pk_po_ne, pk_po_eq, pk_po_ix, rI, ne_eq, e1, if_true]
      exact this
    | succ n ih =>
      intro m hm hfm bb M' hbk fr a1 a2 a3 a4
      have e1 : ¬ (36 : Int) ≤ m := by omega
      have e2 : (m : Int) < 36 := by omega
      have e3 : (0 : Int) ≤ m := by omega
      have hr := pm_rng (a := a) (c := c) (f := f) (sp := sp) (by omega) hc.1 m
      have hsm := a1 m e3 e2
      rw [if_neg (by omega)] at hsm
      have hbm := hb m e3 e2
      rw [s_57_21]
      by_cases c1 : (pmN a c f sp m).1 = 0
      · have := fin m bb m M' (by omega) (Or.inr (Or.inl c1)) fr a1 a2 a3 a4
        rw [c1] at this
        rw [c1]
        simp (disch := omega) only [↓x_al_0, ↓gr_95_1, ↓x_il_1, ↓x_c, ↓gr_95_2, ↓x_il_2, ↓x_is_5, ↓x_il_4, ↓x_is_6, ↓x_il_6, ↓x_ge, ↓x_il_5, ↓x_le0, ↓x_il_3, ↓x_mm0, ↓x_is_7, ↓gr_95_0, ↓x_il_7, ↓x_go, ↓x_dup2, ↓x_isub, ↓x_ne0, ↓x_inc_6, ↓gr_95_3, ↓x_rt, ↓ld_96, ↓st_96, ↓ld_97, ↓st_97, ↓ld_98, ↓st_98, ↓ld_99, ↓st_99, ↓n_57, ↓s_57_0, ↓s_57_64, ↓s_57_96, ↓pv_i, ↓pv_r, ↓pv_0, ↓pv_l, wz_pk, wz_ti, wz_wz, vI_wz, wz_id, wz_0, List.length_cons, List.length_nil, ↓reduceIte, true_and, and_true, Int.reduceLE, Int.reduceLT, Int.reduceEq, not_true_eq_false, not_false_eq_true, false_or, or_false, true_or, or_true, ite_not, Int.reduceNeg, Int32.reduceToInt, Nat.reduceAdd, Nat.reduceLeDiff, Nat.reduceLT, Nat.reduceEqDiff, Int.reduceAdd, Int.reduceSub, Int.reduceMul, Nat.zero_le, pk_po_ne, pk_po_eq, pk_po_ix, rI, ne_eq, e1, if_false, if_true, Int.le_refl]
        exact this
      · have c1' : ¬ (pmN a c f sp m).1 ≤ 0 := by omega
        by_cases c2 : sp m < min c (pmN a c f sp m).1
        · have em : pmN a c f sp (m + 1) = ((pmN a c f sp m).1, (m : Int), (pmN a c f sp m).2.2) := by
            simp only [pmN]
            rw [if_neg (by omega), if_pos c2]
          have := fin (m + 1) (vI (min c (pmN a c f sp m).1)) m (po M' 97 i m) (by omega) (Or.inr (Or.inr (by rw [em]; simp only; omega))) (fr.pw (by decide)) (fun u u1 u2 => by
            rw [pk_po_ne (by decide), a1 u u1 u2]
            by_cases h9 : u < (m : Int)
            · rw [if_pos h9, if_pos (by omega)]
            · rw [if_neg h9]
              by_cases h10 : u = m
              · subst h10
                rw [if_pos (by omega)]
                unfold pyN
                rw [Int.toNat_natCast, em]
                omega
              · rw [if_neg (by omega)]) (by rw [pk_po_eq, em]; exact wz_id (by omega) (by omega)) (by rw [pk_po_ne (by decide), em]; exact a3) (fun j hj => by
            rw [pk_po_ix hj, pk_po_ne (by decide), pk_po_ne (by decide)]
            exact a4 j hj)
          rw [em] at this
          have c3 : ¬ min c (pmN a c f sp m).1 ≤ sp m := by omega
          simp (disch := omega) only [↓x_al_0, ↓gr_95_1, ↓x_il_1, ↓x_c, ↓gr_95_2, ↓x_il_2, ↓x_is_5, ↓x_il_4, ↓x_is_6, ↓x_il_6, ↓x_ge, ↓x_il_5, ↓x_le0, ↓x_il_3, ↓x_mm0, ↓x_is_7, ↓gr_95_0, ↓x_il_7, ↓x_go, ↓x_dup2, ↓x_isub, ↓x_ne0, ↓x_inc_6, ↓gr_95_3, ↓x_rt, ↓ld_96, ↓st_96, ↓ld_97, ↓st_97, ↓ld_98, ↓st_98, ↓ld_99, ↓st_99, ↓n_57, ↓s_57_0, ↓s_57_64, ↓s_57_96, ↓pv_i, ↓pv_r, ↓pv_0, ↓pv_l, wz_pk, wz_ti, wz_wz, vI_wz, wz_id, wz_0, List.length_cons, List.length_nil, ↓reduceIte, true_and, and_true, Int.reduceLE, Int.reduceLT, Int.reduceEq, not_true_eq_false, not_false_eq_true, false_or, or_false, true_or, or_true, ite_not, Int.reduceNeg, Int32.reduceToInt, Nat.reduceAdd, Nat.reduceLeDiff, Nat.reduceLT, Nat.reduceEqDiff, Int.reduceAdd, Int.reduceSub, Int.reduceMul, Nat.zero_le, pk_po_ne, pk_po_eq, pk_po_ix, rI, ne_eq, e1, e2, e3, if_false, c1', hsm, c3, h8, h0]
          exact this
        · have em : pmN a c f sp (m + 1) = ((pmN a c f sp m).1 - min c (pmN a c f sp m).1, -1, if (pmN a c f sp m).1 - min c (pmN a c f sp m).1 = 0 then (m : Int) else (pmN a c f sp m).2.2) := by
            simp only [pmN]
            rw [if_neg (by omega), if_neg c2, hbk]
          have c3 : min c (pmN a c f sp m).1 ≤ sp m := by omega
          have rows : ∀ (M2 : Mem), (∀ u, pk M2 96 u = pk (po M' 96 m (sp m - min c (pmN a c f sp m).1)) 96 u) → ∀ u, 0 ≤ u → u < 36 → pk M2 96 u = if u < ((m + 1 : Nat) : Int) then sp u - pyN a c f sp u.toNat else sp u := by
            intro M2 hM2 u u1 u2
            rw [hM2, pk_po]
            by_cases h10 : u = m
            · subst h10
              rw [if_pos ⟨rfl, rfl⟩, if_pos (by omega)]
              unfold pyN
              rw [Int.toNat_natCast, em, wz_id (by omega) (by omega)]
              omega
            · rw [if_neg (fun h => h10 h.2), a1 u u1 u2]
              by_cases h9 : u < (m : Int)
              · rw [if_pos h9, if_pos (by omega)]
              · rw [if_neg h9, if_neg (by omega)]
          by_cases c4 : (pmN a c f sp m).1 - min c (pmN a c f sp m).1 = 0
          · have ih2 := ih (m + 1) (by omega) (by omega) (vI (min c (pmN a c f sp m).1)) (po (po M' 96 m (sp m - min c (pmN a c f sp m).1)) 98 i m) (by rw [em]) ((fr.pw (by decide)).pw (by decide)) (rows _ (fun u => by rw [pk_po_ne (by decide)])) (by rw [pk_po_ne (by decide), pk_po_ne (by decide), em, a2]; exact hbk) (by rw [pk_po_eq, em]; simp only; rw [if_pos c4]; exact wz_id (by omega) (by omega)) (fun j hj => by
              rw [pk_po_ne (by decide), pk_po_ne (by decide), pk_po_ix hj, pk_po_ne (by decide), pk_po_ne (by decide), pk_po_ne (by decide)]
              exact a4 j hj)
            rw [em, c4] at ih2
            simp (disch := omega) only [↓x_al_0, ↓gr_95_1, ↓x_il_1, ↓x_c, ↓gr_95_2, ↓x_il_2, ↓x_is_5, ↓x_il_4, ↓x_is_6, ↓x_il_6, ↓x_ge, ↓x_il_5, ↓x_le0, ↓x_il_3, ↓x_mm0, ↓x_is_7, ↓gr_95_0, ↓x_il_7, ↓x_go, ↓x_dup2, ↓x_isub, ↓x_ne0, ↓x_inc_6, ↓gr_95_3, ↓x_rt, ↓ld_96, ↓st_96, ↓ld_97, ↓st_97, ↓ld_98, ↓st_98, ↓ld_99, ↓st_99, ↓n_57, ↓s_57_0, ↓s_57_64, ↓s_57_96, ↓pv_i, ↓pv_r, ↓pv_0, ↓pv_l, wz_pk, wz_ti, wz_wz, vI_wz, wz_id, wz_0, List.length_cons, List.length_nil, ↓reduceIte, true_and, and_true, Int.reduceLE, Int.reduceLT, Int.reduceEq, not_true_eq_false, not_false_eq_true, false_or, or_false, true_or, or_true, ite_not, Int.reduceNeg, Int32.reduceToInt, Nat.reduceAdd, Nat.reduceLeDiff, Nat.reduceLT, Nat.reduceEqDiff, Int.reduceAdd, Int.reduceSub, Int.reduceMul, Nat.zero_le, pk_po_ne, pk_po_eq, pk_po_ix, rI, ne_eq, e1, e2, e3, if_false, c1', hsm, c3, if_true, h8, h0, c4]
            exact ih2
          · have ih2 := ih (m + 1) (by omega) (by omega) (vI (min c (pmN a c f sp m).1)) (po M' 96 m (sp m - min c (pmN a c f sp m).1)) (by rw [em]) (fr.pw (by decide)) (rows _ (fun u => rfl)) (by rw [pk_po_ne (by decide), em, a2]; exact hbk) (by rw [pk_po_ne (by decide), em]; simp only; rw [if_neg c4]; exact a3) (fun j hj => by
              rw [pk_po_ne (by decide), pk_po_ne (by decide), pk_po_ne (by decide)]
              exact a4 j hj)
            rw [em] at ih2
            simp (disch := omega) only [↓x_al_0, ↓gr_95_1, ↓x_il_1, ↓x_c, ↓gr_95_2, ↓x_il_2, ↓x_is_5, ↓x_il_4, ↓x_is_6, ↓x_il_6, ↓x_ge, ↓x_il_5, ↓x_le0, ↓x_il_3, ↓x_mm0, ↓x_is_7, ↓gr_95_0, ↓x_il_7, ↓x_go, ↓x_dup2, ↓x_isub, ↓x_ne0, ↓x_inc_6, ↓gr_95_3, ↓x_rt, ↓ld_96, ↓st_96, ↓ld_97, ↓st_97, ↓ld_98, ↓st_98, ↓ld_99, ↓st_99, ↓n_57, ↓s_57_0, ↓s_57_64, ↓s_57_96, ↓pv_i, ↓pv_r, ↓pv_0, ↓pv_l, wz_pk, wz_ti, wz_wz, vI_wz, wz_id, wz_0, List.length_cons, List.length_nil, ↓reduceIte, true_and, and_true, Int.reduceLE, Int.reduceLT, Int.reduceEq, not_true_eq_false, not_false_eq_true, false_or, or_false, true_or, or_true, ite_not, Int.reduceNeg, Int32.reduceToInt, Nat.reduceAdd, Nat.reduceLeDiff, Nat.reduceLT, Nat.reduceEqDiff, Int.reduceAdd, Int.reduceSub, Int.reduceMul, Nat.zero_le, pk_po_ne, pk_po_eq, pk_po_ix, rI, ne_eq, e1, e2, e3, if_false, c1', hsm, c3, if_true, h8, h0, c4]
            exact ih2
  have k0 := key (36 - f.toNat) f.toNat (by omega) (by omega) .null (po (po M 97 i (-1)) 98 i (-1)) (by rw [pm_early _ (by omega)]) ((fx.rfl.pw (by decide)).pw (by decide)) (fun u u1 u2 => by
    rw [pk_po_ne (by decide), pk_po_ne (by decide), hs u u1 u2]
    split
    · unfold pyN
      rw [pm_early _ (by omega), pm_early _ (by omega)]
      omega
    · rfl) (by rw [pk_po_ne (by decide), pk_po_eq, pm_early _ (by omega)]; rfl) (by rw [pk_po_eq, pm_early _ (by omega)]; rfl) (fun j hj => by
    rw [pk_po_ne (by decide), pk_po_ix hj, pk_po_ix hj, pk_po_ne (by decide), pk_po_ne (by decide), pk_po_ne (by decide)]
    exact ⟨rfl, rfl, rfl⟩)
  rw [pm_early _ (by omega), Int.toNat_of_nonneg hf.1] at k0
  simp (disch := omega) only [↓x_al_0, ↓gr_95_1, ↓x_il_1, ↓x_c, ↓gr_95_2, ↓x_il_2, ↓x_is_5, ↓x_il_4, ↓x_is_6, ↓x_il_6, ↓x_ge, ↓x_il_5, ↓x_le0, ↓x_il_3, ↓x_mm0, ↓x_is_7, ↓gr_95_0, ↓x_il_7, ↓x_go, ↓x_dup2, ↓x_isub, ↓x_ne0, ↓x_inc_6, ↓gr_95_3, ↓x_rt, ↓ld_96, ↓st_96, ↓ld_97, ↓st_97, ↓ld_98, ↓st_98, ↓ld_99, ↓st_99, ↓n_57, ↓s_57_0, ↓s_57_64, ↓s_57_96, ↓s_57_102, ↓pv_i, ↓pv_r, ↓pv_0, ↓pv_l, wz_pk, wz_ti, wz_wz, vI_wz, wz_id, wz_0, List.length_cons, List.length_nil, ↓reduceIte, true_and, and_true, Int.reduceLE, Int.reduceLT, Int.reduceEq, not_true_eq_false, not_false_eq_true, false_or, or_false, true_or, or_true, ite_not, Int.reduceNeg, Int32.reduceToInt, Nat.reduceAdd, Nat.reduceLeDiff, Nat.reduceLT, Nat.reduceEqDiff, Int.reduceAdd, Int.reduceSub, Int.reduceMul, Nat.zero_le, pk_po_ne, pk_po_eq, pk_po_ix, rI, ne_eq, h8, h0]
  exact k0
end C41
