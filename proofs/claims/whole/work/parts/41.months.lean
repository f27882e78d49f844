section C41
variable {Q : MOut → MHp → Prop} {X : Nat × (Nat → Int32)} {s : Bool × Bool} {dh dl t : Nat} {M : Mem} {S : St}
theorem C57 {i a c f : Int} {sp : Int → Int} (hi : 0 ≤ i ∧ i < 8) (ha : 1 ≤ a ∧ a ≤ 9999) (hc : 1 ≤ c ∧ c ≤ 999) (hf : 0 ≤ f ∧ f ≤ 35) (hs : ∀ u, 0 ≤ u → u < 36 → pk M 96 u = sp u) (hb : ∀ u, 0 ≤ u → u < 36 → -999 ≤ sp u ∧ sp u ≤ 999)
    (hQ : ∀ M', fx [96, 97, 98, 99] M M' → (∀ u, 0 ≤ u → u < 36 → pk M' 96 u = sp u - pyN a c f sp u.toNat) → pk M' 97 i = (pmN a c f sp 36).2.1 → pk M' 98 i = (pmN a c f sp 36).2.2 → pk M' 99 i = a - (pmN a c f sp 36).1 → (∀ j, j ≠ i → pk M' 97 j = pk M 97 j ∧ pk M' 98 j = pk M 98 j ∧ pk M' 99 j = pk M 99 j) → Q (.inl none) (mkh X s dh dl t M')) :
    CL 57 [.ref 95, vI i, vI a, vI c, vI f] (mkh X s dh dl t M) Q := by
  have h8 : i < 8 := hi.2
  have h0 : (0 : Int) ≤ i := hi.1
  -- the end of it: from month m on nothing more is paid
  have fin : ∀ (m : Nat) (bb : Value) (T : Int) (M' : Mem), m ≤ 36 → (m = 36 ∨ (pmN a c f sp m).1 = 0 ∨ ¬ (pmN a c f sp m).2.1 = -1) → fx [96, 97, 98, 99] M M' → (∀ u, 0 ≤ u → u < 36 → pk M' 96 u = if u < m then sp u - pyN a c f sp u.toNat else sp u) → pk M' 97 i = (pmN a c f sp m).2.1 → pk M' 98 i = (pmN a c f sp m).2.2 → (∀ j, j ≠ i → pk M' 97 j = pk M 97 j ∧ pk M' 98 j = pk M 98 j ∧ pk M' 99 j = pk M 99 j) → EX 57 (sx 57 102) [.ref 95, vI i, vI a, vI c, vI f, vI (pmN a c f sp m).1, vI T, bb] [] (mkh X s dh dl t M') Q := by
    intro m bb T M' hm hst fr a1 a2 a3 a4
    have hr := pm_rng (a := a) (c := c) (f := f) (sp := sp) (by omega) hc.1 m
    have e36 : pmN a c f sp 36 = pmN a c f sp m := by
      rcases hst with h | h
      · rw [h]
      · have := pm_stop h (36 - m)
        rw [show m + (36 - m) = 36 by omega] at this
        exact this
    have e := hQ (po M' 99 i (a - (pmN a c f sp m).1)) (fr.pw (by decide)) (fun u u1 u2 => by
      rw [pk_po_ne (by decide), a1 u u1 u2]
      split
      · rfl
      · rename_i h9
        have hst2 : (pmN a c f sp m).1 = 0 ∨ ¬ (pmN a c f sp m).2.1 = -1 := by omega
        have q1 := pm_stop hst2 (u.toNat - m)
        have q2 := pm_stop hst2 (u.toNat + 1 - m)
        rw [show m + (u.toNat - m) = u.toNat by omega] at q1
        rw [show m + (u.toNat + 1 - m) = u.toNat + 1 by omega] at q2
        unfold pyN
        rw [q1, q2]
        omega) (by rw [pk_po_ne (by decide), e36]; exact a2) (by rw [pk_po_ne (by decide), e36]; exact a3) (by rw [pk_po_eq, e36]; exact wz_id (by omega) (by omega)) (fun j hj => by
      rw [pk_po_ne (by decide), pk_po_ne (by decide), pk_po_ix hj]
      exact a4 j hj)
    rw [s_57_102]
    simp (disch := omega) only [↓x_al_0, ↓gr_95_1, ↓x_il_1, ↓x_c, ↓gr_95_2, ↓x_il_2, ↓x_is_5, ↓x_il_4, ↓x_is_6, ↓x_il_6, ↓x_ge, ↓x_il_5, ↓x_le0, ↓x_il_3, ↓x_mm0, ↓x_is_7, ↓gr_95_0, ↓x_il_7, ↓x_go, ↓x_dup2, ↓x_isub, ↓x_ne0, ↓x_inc_6, ↓gr_95_3, ↓x_rt, ↓ld_96, ↓st_96, ↓ld_97, ↓st_97, ↓ld_98, ↓st_98, ↓ld_99, ↓st_99, ↓n_57, ↓s_57_0, ↓s_57_64, ↓s_57_96, ↓s_57_102, ↓pv_i, ↓pv_r, ↓pv_0, ↓pv_l, wz_pk, wz_ti, wz_wz, vI_wz, wz_id, wz_0, List.length_cons, List.length_nil, ↓reduceIte, true_and, and_true, Int.reduceLE, Int.reduceLT, Int.reduceEq, not_true_eq_false, not_false_eq_true, false_or, or_false, true_or, or_true, ite_not, Int.reduceNeg, Int32.reduceToInt, Nat.reduceAdd, Nat.reduceLeDiff, Nat.reduceLT, Nat.reduceEqDiff, Int.reduceAdd, Int.reduceSub, Int.reduceMul, Nat.zero_le, pk_po_ne, pk_po_eq, pk_po_ix, rI, ne_eq, h8, h0]
    exact e
  have key : ∀ n : Nat, ∀ m : Nat, m + n = 36 → f ≤ m → ∀ (bb : Value) (M' : Mem), (pmN a c f sp m).2.1 = -1 → fx [96, 97, 98, 99] M M' → (∀ u, 0 ≤ u → u < 36 → pk M' 96 u = if u < m then sp u - pyN a c f sp u.toNat else sp u) → pk M' 97 i = (pmN a c f sp m).2.1 → pk M' 98 i = (pmN a c f sp m).2.2 → (∀ j, j ≠ i → pk M' 97 j = pk M 97 j ∧ pk M' 98 j = pk M 98 j ∧ pk M' 99 j = pk M 99 j) → EX 57 (sx 57 21) [.ref 95, vI i, vI a, vI c, vI f, vI (pmN a c f sp m).1, vI m, bb] [] (mkh X s dh dl t M') Q := by
    intro n
    induction n with
    | zero =>
      intro m hm hfm bb M' hbk fr a1 a2 a3 a4
      have e1 : (36 : Int) ≤ m := by omega
      have := fin m bb m M' (by omega) (Or.inl (by omega)) fr a1 a2 a3 a4
      rw [s_57_21]
      simp (disch := omega) only [↓x_al_0, ↓gr_95_1, ↓x_il_1, ↓x_c, ↓gr_95_2, ↓x_il_2, ↓x_is_5, ↓x_il_4, ↓x_is_6, ↓x_il_6, ↓x_ge, ↓x_il_5, ↓x_le0, ↓x_il_3, ↓x_mm0, ↓x_is_7, ↓gr_95_0, ↓x_il_7, ↓x_go, ↓x_dup2, ↓x_isub, ↓x_ne0, ↓x_inc_6, ↓gr_95_3, ↓x_rt, ↓ld_96, ↓st_96, ↓ld_97, ↓st_97, ↓ld_98, ↓st_98, ↓ld_99, ↓st_99, ↓n_57, ↓s_57_0, ↓s_57_64, ↓s_57_96, ↓pv_i, ↓pv_r, ↓pv_0, ↓pv_l, wz_pk, wz_ti, wz_wz, vI_wz, wz_id, wz_0, List.length_cons, List.length_nil, ↓reduceIte, true_and, and_true, Int.reduceLE, Int.reduceLT, Int.reduceEq, not_true_eq_false, not_false_eq_true, false_or, or_false, true_or, or_true, ite_not, Int.reduceNeg, Int32.reduceToInt, Nat.reduceAdd, Nat.reduceLeDiff, Nat.reduceLT, Nat.reduceEqDiff, Int.reduceAdd, Int.reduceSub, Int.reduceMul, Nat.zero_le, pk_po_ne, pk_po_eq, pk_po_ix, rI, ne_eq, e1, if_true]
      exact this
    | succ n ih =>
      intro m hm hfm bb M' hbk fr a1 a2 a3 a4
      have e1 : ¬ (36 : Int) ≤ m := by omega
      have e2 : (m : Int) < 36 := by omega
      have e3 : (0 : Int) ≤ m := by omega
      have hr := pm_rng (a := a) (c := c) (f := f) (sp := sp) (by omega) hc.1 m
      have hsm := a1 m e3 e2
      rw [if_neg (by omega)] at hsm
      have hbm := hb m e3 e2
      rw [s_57_21]
      by_cases c1 : (pmN a c f sp m).1 = 0
      · have := fin m bb m M' (by omega) (Or.inr (Or.inl c1)) fr a1 a2 a3 a4
        rw [c1] at this
        rw [c1]
        simp (disch := omega) only [↓x_al_0, ↓gr_95_1, ↓x_il_1, ↓x_c, ↓gr_95_2, ↓x_il_2, ↓x_is_5, ↓x_il_4, ↓x_is_6, ↓x_il_6, ↓x_ge, ↓x_il_5, ↓x_le0, ↓x_il_3, ↓x_mm0, ↓x_is_7, ↓gr_95_0, ↓x_il_7, ↓x_go, ↓x_dup2, ↓x_isub, ↓x_ne0, ↓x_inc_6, ↓gr_95_3, ↓x_rt, ↓ld_96, ↓st_96, ↓ld_97, ↓st_97, ↓ld_98, ↓st_98, ↓ld_99, ↓st_99, ↓n_57, ↓s_57_0, ↓s_57_64, ↓s_57_96, ↓pv_i, ↓pv_r, ↓pv_0, ↓pv_l, wz_pk, wz_ti, wz_wz, vI_wz, wz_id, wz_0, List.length_cons, List.length_nil, ↓reduceIte, true_and, and_true, Int.reduceLE, Int.reduceLT, Int.reduceEq, not_true_eq_false, not_false_eq_true, false_or, or_false, true_or, or_true, ite_not, Int.reduceNeg, Int32.reduceToInt, Nat.reduceAdd, Nat.reduceLeDiff, Nat.reduceLT, Nat.reduceEqDiff, Int.reduceAdd, Int.reduceSub, Int.reduceMul, Nat.zero_le, pk_po_ne, pk_po_eq, pk_po_ix, rI, ne_eq, e1, if_false, if_true, Int.le_refl]
        exact this
      · have c1' : ¬ (pmN a c f sp m).1 ≤ 0 := by omega
        by_cases c2 : sp m < min c (pmN a c f sp m).1
        · have em : pmN a c f sp (m + 1) = ((pmN a c f sp m).1, (m : Int), (pmN a c f sp m).2.2) := by
            simp only [pmN]
            rw [if_neg (by omega), if_pos c2]
          have := fin (m + 1) (vI (min c (pmN a c f sp m).1)) m (po M' 97 i m) (by omega) (Or.inr (Or.inr (by rw [em]; simp only; omega))) (fr.pw (by decide)) (fun u u1 u2 => by
            rw [pk_po_ne (by decide), a1 u u1 u2]
            by_cases h9 : u < (m : Int)
            · rw [if_pos h9, if_pos (by omega)]
            · rw [if_neg h9]
              by_cases h10 : u = m
              · subst h10
                rw [if_pos (by omega)]
                unfold pyN
                rw [Int.toNat_natCast, em]
                omega
              · rw [if_neg (by omega)]) (by rw [pk_po_eq, em]; exact wz_id (by omega) (by omega)) (by rw [pk_po_ne (by decide), em]; exact a3) (fun j hj => by
            rw [pk_po_ix hj, pk_po_ne (by decide), pk_po_ne (by decide)]
            exact a4 j hj)
          rw [em] at this
          have c3 : ¬ min c (pmN a c f sp m).1 ≤ sp m := by omega
          simp (disch := omega) only [↓x_al_0, ↓gr_95_1, ↓x_il_1, ↓x_c, ↓gr_95_2, ↓x_il_2, ↓x_is_5, ↓x_il_4, ↓x_is_6, ↓x_il_6, ↓x_ge, ↓x_il_5, ↓x_le0, ↓x_il_3, ↓x_mm0, ↓x_is_7, ↓gr_95_0, ↓x_il_7, ↓x_go, ↓x_dup2, ↓x_isub, ↓x_ne0, ↓x_inc_6, ↓gr_95_3, ↓x_rt, ↓ld_96, ↓st_96, ↓ld_97, ↓st_97, ↓ld_98, ↓st_98, ↓ld_99, ↓st_99, ↓n_57, ↓s_57_0, ↓s_57_64, ↓s_57_96, ↓pv_i, ↓pv_r, ↓pv_0, ↓pv_l, wz_pk, wz_ti, wz_wz, vI_wz, wz_id, wz_0, List.length_cons, List.length_nil, ↓reduceIte, true_and, and_true, Int.reduceLE, Int.reduceLT, Int.reduceEq, not_true_eq_false, not_false_eq_true, false_or, or_false, true_or, or_true, ite_not, Int.reduceNeg, Int32.reduceToInt, Nat.reduceAdd, Nat.reduceLeDiff, Nat.reduceLT, Nat.reduceEqDiff, Int.reduceAdd, Int.reduceSub, Int.reduceMul, Nat.zero_le, pk_po_ne, pk_po_eq, pk_po_ix, rI, ne_eq, e1, e2, e3, if_false, c1', hsm, c3, h8, h0]
          exact this
        · have em : pmN a c f sp (m + 1) = ((pmN a c f sp m).1 - min c (pmN a c f sp m).1, -1, if (pmN a c f sp m).1 - min c (pmN a c f sp m).1 = 0 then (m : Int) else (pmN a c f sp m).2.2) := by
            simp only [pmN]
            rw [if_neg (by omega), if_neg c2, hbk]
          have c3 : min c (pmN a c f sp m).1 ≤ sp m := by omega
          have rows : ∀ (M2 : Mem), (∀ u, pk M2 96 u = pk (po M' 96 m (sp m - min c (pmN a c f sp m).1)) 96 u) → ∀ u, 0 ≤ u → u < 36 → pk M2 96 u = if u < ((m + 1 : Nat) : Int) then sp u - pyN a c f sp u.toNat else sp u := by
            intro M2 hM2 u u1 u2
            rw [hM2, pk_po]
            by_cases h10 : u = m
            · subst h10
              rw [if_pos ⟨rfl, rfl⟩, if_pos (by omega)]
              unfold pyN
              rw [Int.toNat_natCast, em, wz_id (by omega) (by omega)]
              omega
            · rw [if_neg (fun h => h10 h.2), a1 u u1 u2]
              by_cases h9 : u < (m : Int)
              · rw [if_pos h9, if_pos (by omega)]
              · rw [if_neg h9, if_neg (by omega)]
          by_cases c4 : (pmN a c f sp m).1 - min c (pmN a c f sp m).1 = 0
          · have ih2 := ih (m + 1) (by omega) (by omega) (vI (min c (pmN a c f sp m).1)) (po (po M' 96 m (sp m - min c (pmN a c f sp m).1)) 98 i m) (by rw [em]) ((fr.pw (by decide)).pw (by decide)) (rows _ (fun u => by rw [pk_po_ne (by decide)])) (by rw [pk_po_ne (by decide), pk_po_ne (by decide), em, a2]; exact hbk) (by rw [pk_po_eq, em]; simp only; rw [if_pos c4]; exact wz_id (by omega) (by omega)) (fun j hj => by
              rw [pk_po_ne (by decide), pk_po_ne (by decide), pk_po_ix hj, pk_po_ne (by decide), pk_po_ne (by decide), pk_po_ne (by decide)]
              exact a4 j hj)
            rw [em, c4] at ih2
            simp (disch := omega) only [↓x_al_0, ↓gr_95_1, ↓x_il_1, ↓x_c, ↓gr_95_2, ↓x_il_2, ↓x_is_5, ↓x_il_4, ↓x_is_6, ↓x_il_6, ↓x_ge, ↓x_il_5, ↓x_le0, ↓x_il_3, ↓x_mm0, ↓x_is_7, ↓gr_95_0, ↓x_il_7, ↓x_go, ↓x_dup2, ↓x_isub, ↓x_ne0, ↓x_inc_6, ↓gr_95_3, ↓x_rt, ↓ld_96, ↓st_96, ↓ld_97, ↓st_97, ↓ld_98, ↓st_98, ↓ld_99, ↓st_99, ↓n_57, ↓s_57_0, ↓s_57_64, ↓s_57_96, ↓pv_i, ↓pv_r, ↓pv_0, ↓pv_l, wz_pk, wz_ti, wz_wz, vI_wz, wz_id, wz_0, List.length_cons, List.length_nil, ↓reduceIte, true_and, and_true, Int.reduceLE, Int.reduceLT, Int.reduceEq, not_true_eq_false, not_false_eq_true, false_or, or_false, true_or, or_true, ite_not, Int.reduceNeg, Int32.reduceToInt, Nat.reduceAdd, Nat.reduceLeDiff, Nat.reduceLT, Nat.reduceEqDiff, Int.reduceAdd, Int.reduceSub, Int.reduceMul, Nat.zero_le, pk_po_ne, pk_po_eq, pk_po_ix, rI, ne_eq, e1, e2, e3, if_false, c1', hsm, c3, if_true, h8, h0, c4]
            exact ih2
          · have ih2 := ih (m + 1) (by omega) (by omega) (vI (min c (pmN a c f sp m).1)) (po M' 96 m (sp m - min c (pmN a c f sp m).1)) (by rw [em]) (fr.pw (by decide)) (rows _ (fun u => rfl)) (by rw [pk_po_ne (by decide), em, a2]; exact hbk) (by rw [pk_po_ne (by decide), em]; simp only; rw [if_neg c4]; exact a3) (fun j hj => by
              rw [pk_po_ne (by decide), pk_po_ne (by decide), pk_po_ne (by decide)]
              exact a4 j hj)
            rw [em] at ih2
            simp (disch := omega) only [↓x_al_0, ↓gr_95_1, ↓x_il_1, ↓x_c, ↓gr_95_2, ↓x_il_2, ↓x_is_5, ↓x_il_4, ↓x_is_6, ↓x_il_6, ↓x_ge, ↓x_il_5, ↓x_le0, ↓x_il_3, ↓x_mm0, ↓x_is_7, ↓gr_95_0, ↓x_il_7, ↓x_go, ↓x_dup2, ↓x_isub, ↓x_ne0, ↓x_inc_6, ↓gr_95_3, ↓x_rt, ↓ld_96, ↓st_96, ↓ld_97, ↓st_97, ↓ld_98, ↓st_98, ↓ld_99, ↓st_99, ↓n_57, ↓s_57_0, ↓s_57_64, ↓s_57_96, ↓pv_i, ↓pv_r, ↓pv_0, ↓pv_l, wz_pk, wz_ti, wz_wz, vI_wz, wz_id, wz_0, List.length_cons, List.length_nil, ↓reduceIte, true_and, and_true, Int.reduceLE, Int.reduceLT, Int.reduceEq, not_true_eq_false, not_false_eq_true, false_or, or_false, true_or, or_true, ite_not, Int.reduceNeg, Int32.reduceToInt, Nat.reduceAdd, Nat.reduceLeDiff, Nat.reduceLT, Nat.reduceEqDiff, Int.reduceAdd, Int.reduceSub, Int.reduceMul, Nat.zero_le, pk_po_ne, pk_po_eq, pk_po_ix, rI, ne_eq, e1, e2, e3, if_false, c1', hsm, c3, if_true, h8, h0, c4]
            exact ih2
  have k0 := key (36 - f.toNat) f.toNat (by omega) (by omega) .null (po (po M 97 i (-1)) 98 i (-1)) (by rw [pm_early _ (by omega)]) ((fx.rfl.pw (by decide)).pw (by decide)) (fun u u1 u2 => by
    rw [pk_po_ne (by decide), pk_po_ne (by decide), hs u u1 u2]
    split
    · unfold pyN
      rw [pm_early _ (by omega), pm_early _ (by omega)]
      omega
    · rfl) (by rw [pk_po_ne (by decide), pk_po_eq, pm_early _ (by omega)]; rfl) (by rw [pk_po_eq, pm_early _ (by omega)]; rfl) (fun j hj => by
    rw [pk_po_ne (by decide), pk_po_ix hj, pk_po_ix hj, pk_po_ne (by decide), pk_po_ne (by decide), pk_po_ne (by decide)]
    exact ⟨rfl, rfl, rfl⟩)
  rw [pm_early _ (by omega), Int.toNat_of_nonneg hf.1] at k0
  simp (disch := omega) only [↓x_al_0, ↓gr_95_1, ↓x_il_1, ↓x_c, ↓gr_95_2, ↓x_il_2, ↓x_is_5, ↓x_il_4, ↓x_is_6, ↓x_il_6, ↓x_ge, ↓x_il_5, ↓x_le0, ↓x_il_3, ↓x_mm0, ↓x_is_7, ↓gr_95_0, ↓x_il_7, ↓x_go, ↓x_dup2, ↓x_isub, ↓x_ne0, ↓x_inc_6, ↓gr_95_3, ↓x_rt, ↓ld_96, ↓st_96, ↓ld_97, ↓st_97, ↓ld_98, ↓st_98, ↓ld_99, ↓st_99, ↓n_57, ↓s_57_0, ↓s_57_64, ↓s_57_96, ↓s_57_102, ↓pv_i, ↓pv_r, ↓pv_0, ↓pv_l, wz_pk, wz_ti, wz_wz, vI_wz, wz_id, wz_0, List.length_cons, List.length_nil, ↓reduceIte, true_and, and_true, Int.reduceLE, Int.reduceLT, Int.reduceEq, not_true_eq_false, not_false_eq_true, false_or, or_false, true_or, or_true, ite_not, Int.reduceNeg, Int32.reduceToInt, Nat.reduceAdd, Nat.reduceLeDiff, Nat.reduceLT, Nat.reduceEqDiff, Int.reduceAdd, Int.reduceSub, Int.reduceMul, Nat.zero_le, pk_po_ne, pk_po_eq, pk_po_ix, rI, ne_eq, h8, h0]
  exact k0
theorem C56 {p : Int} (hC : RC S M) (hH : hou S) (hI : crs S 78) (hp : 0 ≤ p ∧ p < S 3 0)
    (hQ : ∀ M', fx [96, 97, 98, 99] M M' → (∀ u, 0 ≤ u → u < 36 → pk M' 96 u = spN S p (S 78 9).toNat u) → (∀ k : Nat, (k : Int) < S 78 9 → S 29 (S 87 k) = p → pk M' 97 k = (prK S k).2.1 ∧ pk M' 98 k = (prK S k).2.2 ∧ pk M' 99 k = S 30 (S 87 k) - (prK S k).1) → Q (.inl none) (mkh X s dh dl t M')) :
    CL 56 [.ref 95, .ref (hA s), .ref 78, vI p] (mkh X s dh dl t M) Q := by
  have h1 := hH.np
  have h2 := c78_proms hI
  have h3 := hH.nd
  have wp : wz p = p := wz_id (by omega) (by omega)
  -- the promises, one by one
  have key2 : ∀ M', fx [96, 97, 98, 99] M M' → (∀ u, 0 ≤ u → u < 36 → pk M' 96 u = spN S p (0 : Nat) u) → (∀ k : Nat, k < 0 → S 29 (S 87 k) = p → pk M' 97 k = (prK S k).2.1 ∧ pk M' 98 k = (prK S k).2.2 ∧ pk M' 99 k = S 30 (S 87 k) - (prK S k).1) → ∀ bb, EX 56 (sx 56 42) [.ref 95, .ref (hA s), .ref 78, vI p, vI ((0 : Nat) : Int), bb] [] (mkh X s dh dl t M') Q := by
    refine lp (n := (S 78 9).toNat) (fun n => ∀ M', fx [96, 97, 98, 99] M M' → (∀ u, 0 ≤ u → u < 36 → pk M' 96 u = spN S p n u) → (∀ k : Nat, k < n → S 29 (S 87 k) = p → pk M' 97 k = (prK S k).2.1 ∧ pk M' 98 k = (prK S k).2.2 ∧ pk M' 99 k = S 30 (S 87 k) - (prK S k).1) → ∀ bb, EX 56 (sx 56 42) [.ref 95, .ref (hA s), .ref 78, vI p, vI n, bb] [] (mkh X s dh dl t M') Q) ?_ ?_
    · intro M' f a1 a2 bb
      replace hC := hC.fxx f rfl
      have e1 : S 78 9 ≤ (S 78 9).toNat := by omega
      have e := hQ M' f a1 (fun k hk => a2 k (by omega))
      rw [s_56_42]
      simp (disch := omega) only [↓x_c, ↓x_is_4, ↓x_il_4, ↓x_ge, ↓x_al_0, ↓gr_95_0, ↓x_al_1, ↓gr_hA_4, ↓gr_hB_4, ↓x_il_3, ↓gr_hA_3, ↓gr_hB_3, ↓x_isub, ↓x_inc_4, ↓x_go, ↓x_al_2, ↓gi_78_9, ↓gr_78_10, ↓x_is_5, ↓gr_hA_12, ↓gr_hB_12, ↓x_il_5, ↓x_ne, ↓gr_hA_13, ↓gr_hB_13, ↓gr_78_11, ↓gr_78_12, ↓c_57, ↓x_rt, ↓ld_87, ↓st_87, ↓ld_88, ↓st_88, ↓ld_89, ↓st_89, ↓ld_96, ↓st_96, ↓ld_hA_1, ↓st_hA_1, ↓ld_hA_2, ↓st_hA_2, ↓ar_hA_2, ↓ld_hA_26, ↓st_hA_26, ↓ld_hA_27, ↓st_hA_27, ↓ld_hB_1, ↓st_hB_1, ↓ld_hB_2, ↓st_hB_2, ↓ar_hB_2, ↓ld_hB_26, ↓st_hB_26, ↓ld_hB_27, ↓st_hB_27, ↓n_56, ↓s_56_0, ↓s_56_39, ↓s_56_98, ↓s_56_104, ↓bk_v, ↓bk_n, ↓bk_r, ↓pv_i, ↓pv_r, ↓pv_0, ↓pv_l, wz_pk, wz_ti, wz_wz, vI_wz, wz_id, wz_0, List.length_cons, List.length_nil, ↓reduceIte, true_and, and_true, Int.reduceLE, Int.reduceLT, Int.reduceEq, not_true_eq_false, not_false_eq_true, false_or, or_false, true_or, or_true, ite_not, Int.reduceNeg, Int32.reduceToInt, Nat.reduceAdd, Nat.reduceLeDiff, Nat.reduceLT, Nat.reduceEqDiff, Int.reduceAdd, Int.reduceSub, Int.reduceMul, Nat.zero_le, pk_po_ne, pk_po_eq, pk_po_ix, rI, ne_eq, hC.at 78 rfl, hC.wzz 78 rfl, e1, if_true]
      exact e
    · intro n hn ih M' f a1 a2 bb
      replace hC := hC.fxx f rfl
      have e1 : ¬ S 78 9 ≤ n := by omega
      have e2 : (n : Int) < 8 := by omega
      have e3 : (0 : Int) ≤ n := by omega
      have b1 := c78_pd hI n (by omega) (by omega)
      have b2 := c78_pm hI n (by omega) (by omega)
      have b4 := c78_pf hI n (by omega) (by omega)
      have b3 := hH.amt (S 87 n) b1.1 b1.2
      have d6 : S 87 n < 6 := by omega
      have d0 : (0 : Int) ≤ S 87 n := b1.1
      have hsr := spN_rng hH hI hp n (by omega)
      rw [s_56_42]
      by_cases c1 : S 29 (S 87 n) = p
      · simp (disch := omega) only [↓x_c, ↓x_is_4, ↓x_il_4, ↓x_ge, ↓x_al_0, ↓gr_95_0, ↓x_al_1, ↓gr_hA_4, ↓gr_hB_4, ↓x_il_3, ↓gr_hA_3, ↓gr_hB_3, ↓x_isub, ↓x_inc_4, ↓x_go, ↓x_al_2, ↓gi_78_9, ↓gr_78_10, ↓x_is_5, ↓gr_hA_12, ↓gr_hB_12, ↓x_il_5, ↓x_ne, ↓gr_hA_13, ↓gr_hB_13, ↓gr_78_11, ↓gr_78_12, ↓c_57, ↓x_rt, ↓ld_87, ↓st_87, ↓ld_88, ↓st_88, ↓ld_89, ↓st_89, ↓ld_96, ↓st_96, ↓ld_hA_1, ↓st_hA_1, ↓ld_hA_2, ↓st_hA_2, ↓ar_hA_2, ↓ld_hA_26, ↓st_hA_26, ↓ld_hA_27, ↓st_hA_27, ↓ld_hB_1, ↓st_hB_1, ↓ld_hB_2, ↓st_hB_2, ↓ar_hB_2, ↓ld_hB_26, ↓st_hB_26, ↓ld_hB_27, ↓st_hB_27, ↓n_56, ↓s_56_0, ↓s_56_39, ↓s_56_98, ↓s_56_104, ↓bk_v, ↓bk_n, ↓bk_r, ↓pv_i, ↓pv_r, ↓pv_0, ↓pv_l, wz_pk, wz_ti, wz_wz, vI_wz, wz_id, wz_0, List.length_cons, List.length_nil, ↓reduceIte, true_and, and_true, Int.reduceLE, Int.reduceLT, Int.reduceEq, not_true_eq_false, not_false_eq_true, false_or, or_false, true_or, or_true, ite_not, Int.reduceNeg, Int32.reduceToInt, Nat.reduceAdd, Nat.reduceLeDiff, Nat.reduceLT, Nat.reduceEqDiff, Int.reduceAdd, Int.reduceSub, Int.reduceMul, Nat.zero_le, pk_po_ne, pk_po_eq, pk_po_ix, rI, ne_eq, hC.at 78 rfl, hC.wzz 78 rfl, hC.at 87 rfl, hC.wzz 87 rfl, hC.at 29 rfl, hC.wzz 29 rfl, hC.at 30 rfl, hC.wzz 30 rfl, hC.at 88 rfl, hC.wzz 88 rfl, hC.at 89 rfl, hC.wzz 89 rfl, e1, e2, e3, if_false, d6, d0, c1, wp, if_true]
        refine C57 (sp := spN S p n) ⟨e3, e2⟩ ⟨b3.1, b3.2⟩ ⟨b2.1, b2.2⟩ ⟨b4.1, b4.2⟩ a1 hsr ?_
        intro M2 f2 g1 g2 g3 g4 g5
        have ih2 := ih M2 (f.trans f2) (fun u u1 u2 => by
          rw [g1 u u1 u2]
          simp only [spN]
          rw [if_pos c1]) (fun k hk hk2 => by
          by_cases hkn : k = n
          · subst hkn
            unfold prK
            rw [c1]
            exact ⟨g2, g3, g4⟩
          · have g6 := g5 k (by omega)
            rw [g6.1, g6.2.1, g6.2.2]
            exact a2 k (by omega) hk2) (vI (S 87 n))
        simp (disch := omega) only [↓x_c, ↓x_is_4, ↓x_il_4, ↓x_ge, ↓x_al_0, ↓gr_95_0, ↓x_al_1, ↓gr_hA_4, ↓gr_hB_4, ↓x_il_3, ↓gr_hA_3, ↓gr_hB_3, ↓x_isub, ↓x_inc_4, ↓x_go, ↓x_al_2, ↓gi_78_9, ↓gr_78_10, ↓x_is_5, ↓gr_hA_12, ↓gr_hB_12, ↓x_il_5, ↓x_ne, ↓gr_hA_13, ↓gr_hB_13, ↓gr_78_11, ↓gr_78_12, ↓c_57, ↓x_rt, ↓ld_87, ↓st_87, ↓ld_88, ↓st_88, ↓ld_89, ↓st_89, ↓ld_96, ↓st_96, ↓ld_hA_1, ↓st_hA_1, ↓ld_hA_2, ↓st_hA_2, ↓ar_hA_2, ↓ld_hA_26, ↓st_hA_26, ↓ld_hA_27, ↓st_hA_27, ↓ld_hB_1, ↓st_hB_1, ↓ld_hB_2, ↓st_hB_2, ↓ar_hB_2, ↓ld_hB_26, ↓st_hB_26, ↓ld_hB_27, ↓st_hB_27, ↓n_56, ↓s_56_0, ↓s_56_39, ↓s_56_98, ↓s_56_104, ↓bk_v, ↓bk_n, ↓bk_r, ↓pv_i, ↓pv_r, ↓pv_0, ↓pv_l, wz_pk, wz_ti, wz_wz, vI_wz, wz_id, wz_0, List.length_cons, List.length_nil, ↓reduceIte, true_and, and_true, Int.reduceLE, Int.reduceLT, Int.reduceEq, not_true_eq_false, not_false_eq_true, false_or, or_false, true_or, or_true, ite_not, Int.reduceNeg, Int32.reduceToInt, Nat.reduceAdd, Nat.reduceLeDiff, Nat.reduceLT, Nat.reduceEqDiff, Int.reduceAdd, Int.reduceSub, Int.reduceMul, Nat.zero_le, pk_po_ne, pk_po_eq, pk_po_ix, rI, ne_eq]
        exact ih2
      · have ih2 := ih M' f (fun u u1 u2 => by
          rw [a1 u u1 u2]
          simp only [spN]
          rw [if_neg c1]) (fun k hk hk2 => by
          by_cases hkn : k = n
          · subst hkn
            exact absurd hk2 c1
          · exact a2 k (by omega) hk2) (vI (S 87 n))
        simp (disch := omega) only [↓x_c, ↓x_is_4, ↓x_il_4, ↓x_ge, ↓x_al_0, ↓gr_95_0, ↓x_al_1, ↓gr_hA_4, ↓gr_hB_4, ↓x_il_3, ↓gr_hA_3, ↓gr_hB_3, ↓x_isub, ↓x_inc_4, ↓x_go, ↓x_al_2, ↓gi_78_9, ↓gr_78_10, ↓x_is_5, ↓gr_hA_12, ↓gr_hB_12, ↓x_il_5, ↓x_ne, ↓gr_hA_13, ↓gr_hB_13, ↓gr_78_11, ↓gr_78_12, ↓c_57, ↓x_rt, ↓ld_87, ↓st_87, ↓ld_88, ↓st_88, ↓ld_89, ↓st_89, ↓ld_96, ↓st_96, ↓ld_hA_1, ↓st_hA_1, ↓ld_hA_2, ↓st_hA_2, ↓ar_hA_2, ↓ld_hA_26, ↓st_hA_26, ↓ld_hA_27, ↓st_hA_27, ↓ld_hB_1, ↓st_hB_1, ↓ld_hB_2, ↓st_hB_2, ↓ar_hB_2, ↓ld_hB_26, ↓st_hB_26, ↓ld_hB_27, ↓st_hB_27, ↓n_56, ↓s_56_0, ↓s_56_39, ↓s_56_98, ↓s_56_104, ↓bk_v, ↓bk_n, ↓bk_r, ↓pv_i, ↓pv_r, ↓pv_0, ↓pv_l, wz_pk, wz_ti, wz_wz, vI_wz, wz_id, wz_0, List.length_cons, List.length_nil, ↓reduceIte, true_and, and_true, Int.reduceLE, Int.reduceLT, Int.reduceEq, not_true_eq_false, not_false_eq_true, false_or, or_false, true_or, or_true, ite_not, Int.reduceNeg, Int32.reduceToInt, Nat.reduceAdd, Nat.reduceLeDiff, Nat.reduceLT, Nat.reduceEqDiff, Int.reduceAdd, Int.reduceSub, Int.reduceMul, Nat.zero_le, pk_po_ne, pk_po_eq, pk_po_ix, rI, ne_eq, hC.at 78 rfl, hC.wzz 78 rfl, hC.at 87 rfl, hC.wzz 87 rfl, hC.at 29 rfl, hC.wzz 29 rfl, hC.at 30 rfl, hC.wzz 30 rfl, hC.at 88 rfl, hC.wzz 88 rfl, hC.at 89 rfl, hC.wzz 89 rfl, e1, e2, e3, if_false, d6, d0, c1, wp]
        exact ih2
  -- the spare of each month
  have key1 : ∀ M', fx [96, 97, 98, 99] M M' → (∀ u, 0 ≤ u → u < ((0 : Nat) : Int) → pk M' 96 u = spN S p (0 : Nat) u) → EX 56 (sx 56 3) [.ref 95, .ref (hA s), .ref 78, vI p, vI ((0 : Nat) : Int), .null] [] (mkh X s dh dl t M') Q := by
    refine lp (n := 36) (fun n => ∀ M', fx [96, 97, 98, 99] M M' → (∀ u, 0 ≤ u → u < (n : Int) → pk M' 96 u = spN S p (0 : Nat) u) → EX 56 (sx 56 3) [.ref 95, .ref (hA s), .ref 78, vI p, vI n, .null] [] (mkh X s dh dl t M') Q) ?_ ?_
    · intro M' f a1
      have := key2 M' f a1 (fun k hk => by omega) .null
      have e1 : (36 : Int) ≤ ((36 : Nat) : Int) := by omega
      rw [s_56_3]
      simp (disch := omega) only [↓x_c, ↓x_is_4, ↓x_il_4, ↓x_ge, ↓x_al_0, ↓gr_95_0, ↓x_al_1, ↓gr_hA_4, ↓gr_hB_4, ↓x_il_3, ↓gr_hA_3, ↓gr_hB_3, ↓x_isub, ↓x_inc_4, ↓x_go, ↓x_al_2, ↓gi_78_9, ↓gr_78_10, ↓x_is_5, ↓gr_hA_12, ↓gr_hB_12, ↓x_il_5, ↓x_ne, ↓gr_hA_13, ↓gr_hB_13, ↓gr_78_11, ↓gr_78_12, ↓c_57, ↓x_rt, ↓ld_87, ↓st_87, ↓ld_88, ↓st_88, ↓ld_89, ↓st_89, ↓ld_96, ↓st_96, ↓ld_hA_1, ↓st_hA_1, ↓ld_hA_2, ↓st_hA_2, ↓ar_hA_2, ↓ld_hA_26, ↓st_hA_26, ↓ld_hA_27, ↓st_hA_27, ↓ld_hB_1, ↓st_hB_1, ↓ld_hB_2, ↓st_hB_2, ↓ar_hB_2, ↓ld_hB_26, ↓st_hB_26, ↓ld_hB_27, ↓st_hB_27, ↓n_56, ↓s_56_0, ↓s_56_39, ↓s_56_98, ↓s_56_104, ↓bk_v, ↓bk_n, ↓bk_r, ↓pv_i, ↓pv_r, ↓pv_0, ↓pv_l, wz_pk, wz_ti, wz_wz, vI_wz, wz_id, wz_0, List.length_cons, List.length_nil, ↓reduceIte, true_and, and_true, Int.reduceLE, Int.reduceLT, Int.reduceEq, not_true_eq_false, not_false_eq_true, false_or, or_false, true_or, or_true, ite_not, Int.reduceNeg, Int32.reduceToInt, Nat.reduceAdd, Nat.reduceLeDiff, Nat.reduceLT, Nat.reduceEqDiff, Int.reduceAdd, Int.reduceSub, Int.reduceMul, Nat.zero_le, pk_po_ne, pk_po_eq, pk_po_ix, rI, ne_eq, e1, if_true]
      exact this
    · intro n hn ih M' f a1
      replace hC := hC.fxx f rfl
      have e1 : ¬ (36 : Int) ≤ n := by omega
      have e2 : (n : Int) < 36 := by omega
      have e3 : (0 : Int) ≤ n := by omega
      have q4 : p < 4 := by omega
      have q5 : (0 : Int) ≤ p := hp.1
      have b1 := hH.inc p n hp.1 hp.2 e3 e2
      have b2 := hH.needs p hp.1 hp.2
      have ih2 := ih (po M' 96 n (S 5 (36 * p + n) - S 4 p)) (f.pw (by decide)) (fun u u1 u2 => by
        rw [pk_po]
        split
        · rename_i h
          rw [h.2]
          exact wz_id (by omega) (by omega)
        · exact a1 u u1 (by omega))
      rw [s_56_3]
      simp (disch := omega) only [↓x_c, ↓x_is_4, ↓x_il_4, ↓x_ge, ↓x_al_0, ↓gr_95_0, ↓x_al_1, ↓gr_hA_4, ↓gr_hB_4, ↓x_il_3, ↓gr_hA_3, ↓gr_hB_3, ↓x_isub, ↓x_inc_4, ↓x_go, ↓x_al_2, ↓gi_78_9, ↓gr_78_10, ↓x_is_5, ↓gr_hA_12, ↓gr_hB_12, ↓x_il_5, ↓x_ne, ↓gr_hA_13, ↓gr_hB_13, ↓gr_78_11, ↓gr_78_12, ↓c_57, ↓x_rt, ↓ld_87, ↓st_87, ↓ld_88, ↓st_88, ↓ld_89, ↓st_89, ↓ld_96, ↓st_96, ↓ld_hA_1, ↓st_hA_1, ↓ld_hA_2, ↓st_hA_2, ↓ar_hA_2, ↓ld_hA_26, ↓st_hA_26, ↓ld_hA_27, ↓st_hA_27, ↓ld_hB_1, ↓st_hB_1, ↓ld_hB_2, ↓st_hB_2, ↓ar_hB_2, ↓ld_hB_26, ↓st_hB_26, ↓ld_hB_27, ↓st_hB_27, ↓n_56, ↓s_56_0, ↓s_56_39, ↓s_56_98, ↓s_56_104, ↓bk_v, ↓bk_n, ↓bk_r, ↓pv_i, ↓pv_r, ↓pv_0, ↓pv_l, wz_pk, wz_ti, wz_wz, vI_wz, wz_id, wz_0, List.length_cons, List.length_nil, ↓reduceIte, true_and, and_true, Int.reduceLE, Int.reduceLT, Int.reduceEq, not_true_eq_false, not_false_eq_true, false_or, or_false, true_or, or_true, ite_not, Int.reduceNeg, Int32.reduceToInt, Nat.reduceAdd, Nat.reduceLeDiff, Nat.reduceLT, Nat.reduceEqDiff, Int.reduceAdd, Int.reduceSub, Int.reduceMul, Nat.zero_le, pk_po_ne, pk_po_eq, pk_po_ix, rI, ne_eq, hC.at 4 rfl, hC.wzz 4 rfl, hC.at 5 rfl, hC.wzz 5 rfl, e1, e2, e3, if_false, q4, q5, wp, cl_id]
      exact ih2
  have key := key1 M fx.rfl (fun u u1 u2 => by omega)
  simp only [↓x_c, ↓x_is_4, ↓x_il_4, ↓x_ge, ↓x_al_0, ↓gr_95_0, ↓x_al_1, ↓gr_hA_4, ↓gr_hB_4, ↓x_il_3, ↓gr_hA_3, ↓gr_hB_3, ↓x_isub, ↓x_inc_4, ↓x_go, ↓x_al_2, ↓gi_78_9, ↓gr_78_10, ↓x_is_5, ↓gr_hA_12, ↓gr_hB_12, ↓x_il_5, ↓x_ne, ↓gr_hA_13, ↓gr_hB_13, ↓gr_78_11, ↓gr_78_12, ↓c_57, ↓x_rt, ↓ld_87, ↓st_87, ↓ld_88, ↓st_88, ↓ld_89, ↓st_89, ↓ld_96, ↓st_96, ↓ld_hA_1, ↓st_hA_1, ↓ld_hA_2, ↓st_hA_2, ↓ar_hA_2, ↓ld_hA_26, ↓st_hA_26, ↓ld_hA_27, ↓st_hA_27, ↓ld_hB_1, ↓st_hB_1, ↓ld_hB_2, ↓st_hB_2, ↓ar_hB_2, ↓ld_hB_26, ↓st_hB_26, ↓ld_hB_27, ↓st_hB_27, ↓n_56, ↓s_56_0, ↓s_56_39, ↓s_56_98, ↓s_56_104, ↓bk_v, ↓bk_n, ↓bk_r, ↓pv_i, ↓pv_r, ↓pv_0, ↓pv_l, wz_pk, wz_ti, wz_wz, vI_wz, wz_id, wz_0, List.length_cons, List.length_nil, ↓reduceIte, true_and, and_true, Int.reduceLE, Int.reduceLT, Int.reduceEq, not_true_eq_false, not_false_eq_true, false_or, or_false, true_or, or_true, ite_not, Int.reduceNeg, Int32.reduceToInt, Nat.reduceAdd, Nat.reduceLeDiff, Nat.reduceLT, Nat.reduceEqDiff, Int.reduceAdd, Int.reduceSub, Int.reduceMul, Nat.zero_le, pk_po_ne, pk_po_eq, pk_po_ix, rI, ne_eq]
  exact key
theorem whb_is {sp : Int → Int} {c f : Int} : ∀ n : Nat, whb sp c f n = true → ∀ k : Nat, k < n → c ≤ sp (f + k) := by
  intro n
  induction n with
  | zero => intro _ k hk; omega
  | succ n ih =>
    intro h k hk
    simp only [whb, Bool.and_eq_true, decide_eq_true_eq] at h
    by_cases e : k = n
    · subst e; exact h.2
    · exact ih h.1 k (by omega)
theorem whb_not {sp : Int → Int} {c f : Int} {k : Nat} (hk : ¬ c ≤ sp (f + k)) : ∀ n : Nat, k < n → whb sp c f n = false := by
  intro n
  induction n with
  | zero => intro h; omega
  | succ n ih =>
    intro h
    simp only [whb]
    by_cases e : k = n
    · subst e; simp [hk]
    · rw [ih (by omega)]; rfl
theorem div_facts {a c : Int} (ha : 1 ≤ a ∧ a ≤ 9999) (hc : 1 ≤ c ∧ c ≤ 999) : 0 ≤ (a - 1) / c ∧ (a - 1) / c ≤ a - 1 ∧ (a - 1) / c * c ≤ a - 1 ∧ a ≤ ((a - 1) / c + 1) * c ∧ 0 ≤ (a - 1) / c * c := by
  have h1 : (a - 1) / c * c ≤ a - 1 := Int.ediv_mul_le (a - 1) (by omega)
  have h2 : a - 1 < ((a - 1) / c + 1) * c := Int.lt_ediv_add_one_mul_self (a - 1) (by omega)
  have h3 : 0 ≤ (a - 1) / c := Int.ediv_nonneg (by omega) (by omega)
  have h4 : 0 ≤ (a - 1) / c * c := Int.mul_nonneg h3 (by omega)
  have h5 : (a - 1) / c * 1 ≤ (a - 1) / c * c := Int.mul_le_mul_of_nonneg_left (by omega) h3
  omega
theorem C59 {a c f : Int} {sp : Int → Int} (ha : 1 ≤ a ∧ a ≤ 9999) (hc : 1 ≤ c ∧ c ≤ 999) (hf : 0 ≤ f ∧ f ≤ 35) (hd : doneA a c f < 36) (hs : ∀ u, 0 ≤ u → u < 36 → pk M 96 u = sp u) (hb : ∀ u, 0 ≤ u → u < 36 → -999 ≤ sp u ∧ sp u ≤ 999) :
    CL 59 [.ref 95, vI a, vI c, vI f, vI (doneA a c f)] (mkh X s dh dl t M) Q ↔ Q (rI (bi (wouldB sp a c f))) (mkh X s dh dl t M) := by
  obtain ⟨d1, d2, d3, d4, d5⟩ := div_facts ha hc
  generalize hdd : (a - 1) / c = D at *
  have hdn : doneA a c f = f + D := by unfold doneA; rw [hdd]
  have key : whb sp c f 0 = true → (EX 59 (sx 59 3) [.ref 95, vI a, vI c, vI f, vI (doneA a c f), vI (f + (0 : Nat))] [] (mkh X s dh dl t M) Q ↔ Q (rI (bi (wouldB sp a c f))) (mkh X s dh dl t M)) := by
    refine lp (n := D.toNat) (fun n => whb sp c f n = true → (EX 59 (sx 59 3) [.ref 95, vI a, vI c, vI f, vI (doneA a c f), vI (f + n)] [] (mkh X s dh dl t M) Q ↔ _)) ?_ ?_
    · intro hw
      have e1 : doneA a c f ≤ f + D.toNat := by omega
      have e2 : doneA a c f < 36 := hd
      have e3 : (0 : Int) ≤ doneA a c f := by omega
      have e4 := hs (doneA a c f) (by omega) (by omega)
      have e5 := hb (doneA a c f) (by omega) (by omega)
      have e6 : (doneA a c f - f) * c = D * c := by rw [hdn]; congr 1; omega
      have hwb : wouldB sp a c f = decide (a - D * c ≤ sp (doneA a c f)) := by unfold wouldB; rw [hdd, hw]; simp
      rw [hwb]
      rw [s_59_3]
      simp (disch := omega) only [↓x_il_3, ↓x_is_5, ↓x_il_5, ↓x_il_4, ↓x_ge, ↓x_al_0, ↓gr_95_0, ↓x_il_2, ↓x_c, ↓x_irz, ↓x_inc_5, ↓x_go, ↓x_il_1, ↓x_isub, ↓x_imul, ↓x_lt, ↓ld_96, ↓n_59, ↓s_59_0, ↓s_59_23, ↓s_59_29, ↓s_59_51, ↓s_59_52, ↓pv_i, ↓pv_r, ↓pv_0, ↓pv_l, wz_pk, wz_ti, wz_wz, vI_wz, wz_id, wz_0, List.length_cons, List.length_nil, ↓reduceIte, true_and, and_true, Int.reduceLE, Int.reduceLT, Int.reduceEq, not_true_eq_false, not_false_eq_true, false_or, or_false, true_or, or_true, ite_not, Int.reduceNeg, Int32.reduceToInt, Nat.reduceAdd, Nat.reduceLeDiff, Nat.reduceLT, Nat.reduceEqDiff, Int.reduceAdd, Int.reduceSub, Int.reduceMul, Nat.zero_le, pk_po_ne, pk_po_eq, pk_po_ix, rI, ne_eq, e1, e2, e3, if_true, e4, e6]
      grind [bi]
    · intro n hn ih hw
      have e1 : ¬ doneA a c f ≤ f + n := by omega
      have e2 : f + (n : Int) < 36 := by omega
      have e3 : (0 : Int) ≤ f + n := by omega
      have e4 := hs (f + n) (by omega) (by omega)
      have e5 := hb (f + n) (by omega) (by omega)
      rw [s_59_3]
      by_cases c1 : c ≤ sp (f + n)
      · have ih2 := ih (by simp only [whb, hw, c1]; rfl)
        rw [show f + ((n + 1 : Nat) : Int) = f + n + 1 by omega] at ih2
        simp (disch := omega) only [↓x_il_3, ↓x_is_5, ↓x_il_5, ↓x_il_4, ↓x_ge, ↓x_al_0, ↓gr_95_0, ↓x_il_2, ↓x_c, ↓x_irz, ↓x_inc_5, ↓x_go, ↓x_il_1, ↓x_isub, ↓x_imul, ↓x_lt, ↓ld_96, ↓n_59, ↓s_59_0, ↓s_59_23, ↓s_59_29, ↓s_59_51, ↓s_59_52, ↓pv_i, ↓pv_r, ↓pv_0, ↓pv_l, wz_pk, wz_ti, wz_wz, vI_wz, wz_id, wz_0, List.length_cons, List.length_nil, ↓reduceIte, true_and, and_true, Int.reduceLE, Int.reduceLT, Int.reduceEq, not_true_eq_false, not_false_eq_true, false_or, or_false, true_or, or_true, ite_not, Int.reduceNeg, Int32.reduceToInt, Nat.reduceAdd, Nat.reduceLeDiff, Nat.reduceLT, Nat.reduceEqDiff, Int.reduceAdd, Int.reduceSub, Int.reduceMul, Nat.zero_le, pk_po_ne, pk_po_eq, pk_po_ix, rI, ne_eq, e1, e2, e3, if_false, e4, c1, if_true]
        exact ih2
      · have hw2 := whb_not c1 D.toNat hn
        have hwb : wouldB sp a c f = false := by unfold wouldB; rw [hdd, hw2]; rfl
        rw [hwb]
        simp (disch := omega) only [↓x_il_3, ↓x_is_5, ↓x_il_5, ↓x_il_4, ↓x_ge, ↓x_al_0, ↓gr_95_0, ↓x_il_2, ↓x_c, ↓x_irz, ↓x_inc_5, ↓x_go, ↓x_il_1, ↓x_isub, ↓x_imul, ↓x_lt, ↓ld_96, ↓n_59, ↓s_59_0, ↓s_59_23, ↓s_59_29, ↓s_59_51, ↓s_59_52, ↓pv_i, ↓pv_r, ↓pv_0, ↓pv_l, wz_pk, wz_ti, wz_wz, vI_wz, wz_id, wz_0, List.length_cons, List.length_nil, ↓reduceIte, true_and, and_true, Int.reduceLE, Int.reduceLT, Int.reduceEq, not_true_eq_false, not_false_eq_true, false_or, or_false, true_or, or_true, ite_not, Int.reduceNeg, Int32.reduceToInt, Nat.reduceAdd, Nat.reduceLeDiff, Nat.reduceLT, Nat.reduceEqDiff, Int.reduceAdd, Int.reduceSub, Int.reduceMul, Nat.zero_le, pk_po_ne, pk_po_eq, pk_po_ix, rI, ne_eq, e1, e2, e3, if_false, e4, c1]
        rfl
  have key := key rfl
  rw [show f + ((0 : Nat) : Int) = f by omega] at key
  simp only [↓x_il_3, ↓x_is_5, ↓x_il_5, ↓x_il_4, ↓x_ge, ↓x_al_0, ↓gr_95_0, ↓x_il_2, ↓x_c, ↓x_irz, ↓x_inc_5, ↓x_go, ↓x_il_1, ↓x_isub, ↓x_imul, ↓x_lt, ↓ld_96, ↓n_59, ↓s_59_0, ↓s_59_23, ↓s_59_29, ↓s_59_51, ↓s_59_52, ↓pv_i, ↓pv_r, ↓pv_0, ↓pv_l, wz_pk, wz_ti, wz_wz, vI_wz, wz_id, wz_0, List.length_cons, List.length_nil, ↓reduceIte, true_and, and_true, Int.reduceLE, Int.reduceLT, Int.reduceEq, not_true_eq_false, not_false_eq_true, false_or, or_false, true_or, or_true, ite_not, Int.reduceNeg, Int32.reduceToInt, Nat.reduceAdd, Nat.reduceLeDiff, Nat.reduceLT, Nat.reduceEqDiff, Int.reduceAdd, Int.reduceSub, Int.reduceMul, Nat.zero_le, pk_po_ne, pk_po_eq, pk_po_ix, rI, ne_eq]
  exact key
theorem C58 {a f : Int} {sp : Int → Int} (ha : 1 ≤ a ∧ a ≤ 9999) (hf : 0 ≤ f ∧ f ≤ 35) (hs : ∀ u, 0 ≤ u → u < 36 → pk M 96 u = sp u) (hb : ∀ u, 0 ≤ u → u < 36 → -999 ≤ sp u ∧ sp u ≤ 999)
    (hQ : ∀ M', fx [95] M M' → pk M' 95 4 = (bsN sp a f 999).1 → pk M' 95 5 = (bsN sp a f 999).2 → Q (.inl none) (mkh X s dh dl t M')) : CL 58 [.ref 95, vI a, vI f] (mkh X s dh dl t M) Q := by
  have bsr : ∀ n : Nat, n ≤ 999 → (-1 ≤ (bsN sp a f n).1 ∧ (bsN sp a f n).1 ≤ 999) ∧ (-1 ≤ (bsN sp a f n).2 ∧ (bsN sp a f n).2 ≤ 36) := by
    intro n
    induction n with
    | zero => intro _; simp [bsN]
    | succ n ih =>
      intro hn
      have h := ih (by omega)
      have hdf := div_facts (c := (n : Int) + 1) ha ⟨by omega, by omega⟩
      simp only [bsN]
      split
      · simp only
        unfold doneA at *
        omega
      · exact h
  have key : ∀ M', fx [95] M M' → pk M' 95 4 = (bsN sp a f (0 : Nat)).1 → pk M' 95 5 = (bsN sp a f (0 : Nat)).2 → ∀ b1 b2, EX 58 (sx 58 12) [.ref 95, vI a, vI f, vI (((0 : Nat) : Int) + 1), b1, b2] [] (mkh X s dh dl t M') Q := by
    refine lp (n := 999) (fun n => ∀ M', fx [95] M M' → pk M' 95 4 = (bsN sp a f n).1 → pk M' 95 5 = (bsN sp a f n).2 → ∀ b1 b2, EX 58 (sx 58 12) [.ref 95, vI a, vI f, vI ((n : Int) + 1), b1, b2] [] (mkh X s dh dl t M') Q) ?_ ?_
    · intro M' fr a1 a2 b1 b2
      have e := hQ M' fr a1 a2
      have e1 : (999 : Int) < ((999 : Nat) : Int) + 1 := by omega
      rw [s_58_12]
      simp (disch := omega) only [↓x_al_0, ↓x_c, ↓pi_95_4, ↓pi_95_5, ↓x_is_3, ↓x_il_3, ↓x_gt, ↓x_il_2, ↓x_il_1, ↓x_isub, ↓x_idiv, ↓x_iadd, ↓x_is_4, ↓x_il_4, ↓x_ge, ↓gi_95_5, ↓x_eq, ↓x_go, ↓x_is_5, ↓x_il_5, ↓x_eq0, ↓c_59, ↓x_inc_3, ↓x_rt, ↓n_58, ↓s_58_0, ↓s_58_52, ↓s_58_56, ↓s_58_57, ↓s_58_87, ↓s_58_93, ↓bk_v, ↓bk_n, ↓bk_r, ↓pv_i, ↓pv_r, ↓pv_0, ↓pv_l, wz_pk, wz_ti, wz_wz, vI_wz, wz_id, wz_0, List.length_cons, List.length_nil, ↓reduceIte, true_and, and_true, Int.reduceLE, Int.reduceLT, Int.reduceEq, not_true_eq_false, not_false_eq_true, false_or, or_false, true_or, or_true, ite_not, Int.reduceNeg, Int32.reduceToInt, Nat.reduceAdd, Nat.reduceLeDiff, Nat.reduceLT, Nat.reduceEqDiff, Int.reduceAdd, Int.reduceSub, Int.reduceMul, Nat.zero_le, pk_po_ne, pk_po_eq, pk_po_ix, rI, ne_eq, e1, if_true]
      exact e
    · intro n hn ih M' fr a1 a2 b1 b2
      have e1 : ¬ (999 : Int) < (n : Int) + 1 := by omega
      have hdf := div_facts (c := (n : Int) + 1) ha ⟨by omega, by omega⟩
      have hbr := bsr n (by omega)
      have t1 : Int.tdiv (a - 1) ((n : Int) + 1) = (a - 1) / ((n : Int) + 1) := Int.tdiv_eq_ediv_of_nonneg (by omega)
      have t2 : f + (a - 1) / ((n : Int) + 1) = doneA a ((n : Int) + 1) f := rfl
      have t3 : ¬ (n : Int) + 1 = 0 := by omega
      have t4 : wz (doneA a ((n : Int) + 1) f) = doneA a ((n : Int) + 1) f := wz_id (by unfold doneA; omega) (by unfold doneA; omega)
      have hs' : ∀ u, 0 ≤ u → u < 36 → pk M' 96 u = sp u := fun u u1 u2 => by rw [fr.at (by decide)]; exact hs u u1 u2
      simp only [bsN] at ih
      rw [s_58_12]
      by_cases c1 : doneA a ((n : Int) + 1) f < 36
      · have c1' : ¬ (36 : Int) ≤ doneA a ((n : Int) + 1) f := by omega
        by_cases c2 : (bsN sp a f n).2 = -1 ∨ doneA a ((n : Int) + 1) f < (bsN sp a f n).2
        · have hcl := fun (Q' : MOut → MHp → Prop) => C59 (Q := Q') (X := X) (s := s) (dh := dh) (dl := dl) (t := t) (c := (n : Int) + 1) ha ⟨by omega, by omega⟩ hf c1 hs' hb
          by_cases c3 : wouldB sp a ((n : Int) + 1) f = true
          · rw [if_pos ⟨c1, c2, c3⟩] at ih
            have ih2 := ih (po (po M' 95 4 ((n : Int) + 1)) 95 5 (doneA a ((n : Int) + 1) f)) ((fr.pw (by decide)).pw (by decide)) (by rw [pk_po_ix (by decide), pk_po_eq]; exact wz_id (by omega) (by omega)) (by rw [pk_po_eq]; exact t4) (vI (doneA a ((n : Int) + 1) f)) (vI 1)
            have c4 : ¬ bi (wouldB sp a ((n : Int) + 1) f) = 0 := by rw [c3]; decide
            by_cases c5 : (bsN sp a f n).2 = -1
            · simp (disch := omega) only [↓x_al_0, ↓x_c, ↓pi_95_4, ↓pi_95_5, ↓x_is_3, ↓x_il_3, ↓x_gt, ↓x_il_2, ↓x_il_1, ↓x_isub, ↓x_idiv, ↓x_iadd, ↓x_is_4, ↓x_il_4, ↓x_ge, ↓gi_95_5, ↓x_eq, ↓x_go, ↓x_is_5, ↓x_il_5, ↓x_eq0, ↓c_59, ↓x_inc_3, ↓x_rt, ↓n_58, ↓s_58_0, ↓s_58_52, ↓s_58_56, ↓s_58_57, ↓s_58_87, ↓s_58_93, ↓bk_v, ↓bk_n, ↓bk_r, ↓pv_i, ↓pv_r, ↓pv_0, ↓pv_l, wz_pk, wz_ti, wz_wz, vI_wz, wz_id, wz_0, List.length_cons, List.length_nil, ↓reduceIte, true_and, and_true, Int.reduceLE, Int.reduceLT, Int.reduceEq, not_true_eq_false, not_false_eq_true, false_or, or_false, true_or, or_true, ite_not, Int.reduceNeg, Int32.reduceToInt, Nat.reduceAdd, Nat.reduceLeDiff, Nat.reduceLT, Nat.reduceEqDiff, Int.reduceAdd, Int.reduceSub, Int.reduceMul, Nat.zero_le, pk_po_ne, pk_po_eq, pk_po_ix, rI, ne_eq, e1, if_false, t1, t2, t3, t4, c1', a2, c5, if_true, ↓hcl, bi_wz, c4]
              exact ih2
            · have c6 : ¬ (bsN sp a f n).2 ≤ doneA a ((n : Int) + 1) f := by omega
              simp (disch := omega) only [↓x_al_0, ↓x_c, ↓pi_95_4, ↓pi_95_5, ↓x_is_3, ↓x_il_3, ↓x_gt, ↓x_il_2, ↓x_il_1, ↓x_isub, ↓x_idiv, ↓x_iadd, ↓x_is_4, ↓x_il_4, ↓x_ge, ↓gi_95_5, ↓x_eq, ↓x_go, ↓x_is_5, ↓x_il_5, ↓x_eq0, ↓c_59, ↓x_inc_3, ↓x_rt, ↓n_58, ↓s_58_0, ↓s_58_52, ↓s_58_56, ↓s_58_57, ↓s_58_87, ↓s_58_93, ↓bk_v, ↓bk_n, ↓bk_r, ↓pv_i, ↓pv_r, ↓pv_0, ↓pv_l, wz_pk, wz_ti, wz_wz, vI_wz, wz_id, wz_0, List.length_cons, List.length_nil, ↓reduceIte, true_and, and_true, Int.reduceLE, Int.reduceLT, Int.reduceEq, not_true_eq_false, not_false_eq_true, false_or, or_false, true_or, or_true, ite_not, Int.reduceNeg, Int32.reduceToInt, Nat.reduceAdd, Nat.reduceLeDiff, Nat.reduceLT, Nat.reduceEqDiff, Int.reduceAdd, Int.reduceSub, Int.reduceMul, Nat.zero_le, pk_po_ne, pk_po_eq, pk_po_ix, rI, ne_eq, e1, if_false, t1, t2, t3, t4, c1', a2, c5, c6, if_true, ↓hcl, bi_wz, c4]
              exact ih2
          · rw [if_neg (fun h => c3 h.2.2)] at ih
            have ih2 := ih M' fr a1 a2 (vI (doneA a ((n : Int) + 1) f)) (vI 1)
            have c4 : bi (wouldB sp a ((n : Int) + 1) f) = 0 := by simp [bi, c3]
            by_cases c5 : (bsN sp a f n).2 = -1
            · simp (disch := omega) only [↓x_al_0, ↓x_c, ↓pi_95_4, ↓pi_95_5, ↓x_is_3, ↓x_il_3, ↓x_gt, ↓x_il_2, ↓x_il_1, ↓x_isub, ↓x_idiv, ↓x_iadd, ↓x_is_4, ↓x_il_4, ↓x_ge, ↓gi_95_5, ↓x_eq, ↓x_go, ↓x_is_5, ↓x_il_5, ↓x_eq0, ↓c_59, ↓x_inc_3, ↓x_rt, ↓n_58, ↓s_58_0, ↓s_58_52, ↓s_58_56, ↓s_58_57, ↓s_58_87, ↓s_58_93, ↓bk_v, ↓bk_n, ↓bk_r, ↓pv_i, ↓pv_r, ↓pv_0, ↓pv_l, wz_pk, wz_ti, wz_wz, vI_wz, wz_id, wz_0, List.length_cons, List.length_nil, ↓reduceIte, true_and, and_true, Int.reduceLE, Int.reduceLT, Int.reduceEq, not_true_eq_false, not_false_eq_true, false_or, or_false, true_or, or_true, ite_not, Int.reduceNeg, Int32.reduceToInt, Nat.reduceAdd, Nat.reduceLeDiff, Nat.reduceLT, Nat.reduceEqDiff, Int.reduceAdd, Int.reduceSub, Int.reduceMul, Nat.zero_le, pk_po_ne, pk_po_eq, pk_po_ix, rI, ne_eq, e1, if_false, t1, t2, t3, t4, c1', a2, c5, if_true, ↓hcl, bi_wz, c4]
              exact ih2
            · have c6 : ¬ (bsN sp a f n).2 ≤ doneA a ((n : Int) + 1) f := by omega
              simp (disch := omega) only [↓x_al_0, ↓x_c, ↓pi_95_4, ↓pi_95_5, ↓x_is_3, ↓x_il_3, ↓x_gt, ↓x_il_2, ↓x_il_1, ↓x_isub, ↓x_idiv, ↓x_iadd, ↓x_is_4, ↓x_il_4, ↓x_ge, ↓gi_95_5, ↓x_eq, ↓x_go, ↓x_is_5, ↓x_il_5, ↓x_eq0, ↓c_59, ↓x_inc_3, ↓x_rt, ↓n_58, ↓s_58_0, ↓s_58_52, ↓s_58_56, ↓s_58_57, ↓s_58_87, ↓s_58_93, ↓bk_v, ↓bk_n, ↓bk_r, ↓pv_i, ↓pv_r, ↓pv_0, ↓pv_l, wz_pk, wz_ti, wz_wz, vI_wz, wz_id, wz_0, List.length_cons, List.length_nil, ↓reduceIte, true_and, and_true, Int.reduceLE, Int.reduceLT, Int.reduceEq, not_true_eq_false, not_false_eq_true, false_or, or_false, true_or, or_true, ite_not, Int.reduceNeg, Int32.reduceToInt, Nat.reduceAdd, Nat.reduceLeDiff, Nat.reduceLT, Nat.reduceEqDiff, Int.reduceAdd, Int.reduceSub, Int.reduceMul, Nat.zero_le, pk_po_ne, pk_po_eq, pk_po_ix, rI, ne_eq, e1, if_false, t1, t2, t3, t4, c1', a2, c5, c6, if_true, ↓hcl, bi_wz, c4]
              exact ih2
        · rw [if_neg (fun h => c2 h.2.1)] at ih
          have ih2 := ih M' fr a1 a2 (vI (doneA a ((n : Int) + 1) f)) (vI 0)
          have c5 : ¬ (bsN sp a f n).2 = -1 := fun h => c2 (Or.inl h)
          have c6 : (bsN sp a f n).2 ≤ doneA a ((n : Int) + 1) f := by omega
          simp (disch := omega) only [↓x_al_0, ↓x_c, ↓pi_95_4, ↓pi_95_5, ↓x_is_3, ↓x_il_3, ↓x_gt, ↓x_il_2, ↓x_il_1, ↓x_isub, ↓x_idiv, ↓x_iadd, ↓x_is_4, ↓x_il_4, ↓x_ge, ↓gi_95_5, ↓x_eq, ↓x_go, ↓x_is_5, ↓x_il_5, ↓x_eq0, ↓c_59, ↓x_inc_3, ↓x_rt, ↓n_58, ↓s_58_0, ↓s_58_52, ↓s_58_56, ↓s_58_57, ↓s_58_87, ↓s_58_93, ↓bk_v, ↓bk_n, ↓bk_r, ↓pv_i, ↓pv_r, ↓pv_0, ↓pv_l, wz_pk, wz_ti, wz_wz, vI_wz, wz_id, wz_0, List.length_cons, List.length_nil, ↓reduceIte, true_and, and_true, Int.reduceLE, Int.reduceLT, Int.reduceEq, not_true_eq_false, not_false_eq_true, false_or, or_false, true_or, or_true, ite_not, Int.reduceNeg, Int32.reduceToInt, Nat.reduceAdd, Nat.reduceLeDiff, Nat.reduceLT, Nat.reduceEqDiff, Int.reduceAdd, Int.reduceSub, Int.reduceMul, Nat.zero_le, pk_po_ne, pk_po_eq, pk_po_ix, rI, ne_eq, e1, if_false, t1, t2, t3, t4, c1', a2, c5, c6, if_true]
          exact ih2
      · rw [if_neg (fun h => c1 h.1)] at ih
        have ih2 := ih M' fr a1 a2 (vI (doneA a ((n : Int) + 1) f)) (vI 0)
        have c1' : (36 : Int) ≤ doneA a ((n : Int) + 1) f := by omega
        simp (disch := omega) only [↓x_al_0, ↓x_c, ↓pi_95_4, ↓pi_95_5, ↓x_is_3, ↓x_il_3, ↓x_gt, ↓x_il_2, ↓x_il_1, ↓x_isub, ↓x_idiv, ↓x_iadd, ↓x_is_4, ↓x_il_4, ↓x_ge, ↓gi_95_5, ↓x_eq, ↓x_go, ↓x_is_5, ↓x_il_5, ↓x_eq0, ↓c_59, ↓x_inc_3, ↓x_rt, ↓n_58, ↓s_58_0, ↓s_58_52, ↓s_58_56, ↓s_58_57, ↓s_58_87, ↓s_58_93, ↓bk_v, ↓bk_n, ↓bk_r, ↓pv_i, ↓pv_r, ↓pv_0, ↓pv_l, wz_pk, wz_ti, wz_wz, vI_wz, wz_id, wz_0, List.length_cons, List.length_nil, ↓reduceIte, true_and, and_true, Int.reduceLE, Int.reduceLT, Int.reduceEq, not_true_eq_false, not_false_eq_true, false_or, or_false, true_or, or_true, ite_not, Int.reduceNeg, Int32.reduceToInt, Nat.reduceAdd, Nat.reduceLeDiff, Nat.reduceLT, Nat.reduceEqDiff, Int.reduceAdd, Int.reduceSub, Int.reduceMul, Nat.zero_le, pk_po_ne, pk_po_eq, pk_po_ix, rI, ne_eq, e1, if_false, t1, t2, t3, t4, c1', if_true]
        exact ih2
  have key := key (po (po M 95 4 (-1)) 95 5 (-1)) ((fx.rfl.pw (by decide)).pw (by decide)) (by rw [pk_po_ix (by decide), pk_po_eq]; rfl) (by rw [pk_po_eq]; rfl) .null .null
  rw [show (((0 : Nat) : Int) + 1) = 1 from rfl] at key
  simp only [↓x_al_0, ↓x_c, ↓pi_95_4, ↓pi_95_5, ↓x_is_3, ↓x_il_3, ↓x_gt, ↓x_il_2, ↓x_il_1, ↓x_isub, ↓x_idiv, ↓x_iadd, ↓x_is_4, ↓x_il_4, ↓x_ge, ↓gi_95_5, ↓x_eq, ↓x_go, ↓x_is_5, ↓x_il_5, ↓x_eq0, ↓c_59, ↓x_inc_3, ↓x_rt, ↓n_58, ↓s_58_0, ↓s_58_52, ↓s_58_56, ↓s_58_57, ↓s_58_87, ↓s_58_93, ↓bk_v, ↓bk_n, ↓bk_r, ↓pv_i, ↓pv_r, ↓pv_0, ↓pv_l, wz_pk, wz_ti, wz_wz, vI_wz, wz_id, wz_0, List.length_cons, List.length_nil, ↓reduceIte, true_and, and_true, Int.reduceLE, Int.reduceLT, Int.reduceEq, not_true_eq_false, not_false_eq_true, false_or, or_false, true_or, or_true, ite_not, Int.reduceNeg, Int32.reduceToInt, Nat.reduceAdd, Nat.reduceLeDiff, Nat.reduceLT, Nat.reduceEqDiff, Int.reduceAdd, Int.reduceSub, Int.reduceMul, Nat.zero_le, pk_po_ne, pk_po_eq, pk_po_ix, rI, ne_eq]
  exact key
theorem K97 {k w : Int} (hC : RC S M) (hH : hou S) (hI : crs S 78) (hk : wz k = k) (hw : wz w = w) (hP : PC X s dh dl t M Q (o_kept S k w)) : CL 97 [.ref 0, vI k, vI w] (mkh X s dh dl t M) Q := by
  have h1 := c78_proms hI
  have hnd := hH.nd
  simp only [↓x_al_0, ↓x_il_1, ↓gr_0_9, ↓gi_78_9, ↓c_109, ↓x_il_2, ↓x_c, ↓c_110, ↓gr_0_14, ↓gd_0_3, ↓gr_hA_12, ↓gr_hB_12, ↓gr_78_10, ↓c_56, ↓w_6, ↓gr_95_1, ↓x_ir, ↓gr_95_2, ↓gr_95_3, ↓ld_87, ↓ld_97, ↓ld_98, ↓ld_99, ↓ld_hA_26, ↓ld_hB_26, ↓n_97, ↓s_97_0, ↓s_97_80, ↓s_97_90, ↓s_97_100, ↓bk_v, ↓bk_n, ↓bk_r, ↓be_97, ↓pv_i, ↓pv_r, ↓pv_0, ↓pv_l, wz_pk, wz_ti, wz_wz, vI_wz, wz_id, wz_0, List.length_cons, List.length_nil, ↓reduceIte, true_and, and_true, Int.reduceLE, Int.reduceLT, Int.reduceEq, not_true_eq_false, not_false_eq_true, false_or, or_false, true_or, or_true, ite_not, Int.reduceNeg, Int32.reduceToInt, Nat.reduceAdd, Nat.reduceLeDiff, Nat.reduceLT, Nat.reduceEqDiff, Int.reduceAdd, Int.reduceSub, Int.reduceMul, Nat.zero_le, pk_po_ne, pk_po_eq, pk_po_ix, rI, ne_eq, hC.at 78 rfl, hC.wzz 78 rfl, hC.at 87 rfl, hC.wzz 87 rfl, hC.at 29 rfl, hC.wzz 29 rfl, ↓C109 hC, ↓C110 hC, hk, hw]
  by_cases h2 : 0 ≤ k ∧ k < S 78 9
  · rw [if_pos h2]
    by_cases h3 : 0 ≤ w ∧ w ≤ 2
    · rw [if_pos h3]
      have b1 := c78_pd hI k h2.1 h2.2
      have b2 := hH.dbt (S 87 k) b1.1 b1.2
      refine ⟨⟨by omega, by omega⟩, ⟨by omega, by omega⟩, ?_⟩
      refine C56 hC hH hI b2 ?_
      intro M' f a1 a2
      have e := hP.ok (M' := M') (by rw [o_kept, if_pos h2, if_pos h3]) (hC.fxx f rfl) (FC.fxx f rfl)
      have a3 := a2 k.toNat (by omega)
      rw [Int.toNat_of_nonneg h2.1] at a3
      obtain ⟨g1, g2, g3⟩ := a3 rfl
      have q8 : k < 8 := by omega
      have q0 : (0 : Int) ≤ k := h2.1
      clear a1 a2
      simp only [↓x_al_0, ↓x_il_1, ↓gr_0_9, ↓gi_78_9, ↓c_109, ↓x_il_2, ↓x_c, ↓c_110, ↓gr_0_14, ↓gd_0_3, ↓gr_hA_12, ↓gr_hB_12, ↓gr_78_10, ↓c_56, ↓w_6, ↓gr_95_1, ↓x_ir, ↓gr_95_2, ↓gr_95_3, ↓ld_87, ↓ld_97, ↓ld_98, ↓ld_99, ↓ld_hA_26, ↓ld_hB_26, ↓n_97, ↓s_97_0, ↓s_97_80, ↓s_97_90, ↓s_97_100, ↓bk_v, ↓bk_n, ↓bk_r, ↓be_97, ↓pv_i, ↓pv_r, ↓pv_0, ↓pv_l, wz_pk, wz_ti, wz_wz, vI_wz, wz_id, wz_0, List.length_cons, List.length_nil, ↓reduceIte, true_and, and_true, Int.reduceLE, Int.reduceLT, Int.reduceEq, not_true_eq_false, not_false_eq_true, false_or, or_false, true_or, or_true, ite_not, Int.reduceNeg, Int32.reduceToInt, Nat.reduceAdd, Nat.reduceLeDiff, Nat.reduceLT, Nat.reduceEqDiff, Int.reduceAdd, Int.reduceSub, Int.reduceMul, Nat.zero_le, pk_po_ne, pk_po_eq, pk_po_ix, rI, ne_eq, hk, hw, g1, g2, g3, q8, q0]
      grind
    · rw [if_neg h3]
      exact hP.no 1 (by rw [o_kept, if_pos h2, if_neg h3]; rfl) hC.ref (FC.rfl.pw (by decide))
  · rw [if_neg h2]
    exact hP.no 0 (by rw [o_kept, if_neg h2]; rfl) hC.ref (FC.rfl.pw (by decide))
theorem K98 {p m : Int} (hC : RC S M) (hH : hou S) (hI : crs S 78) (hp : wz p = p) (hm : wz m = m) (hP : PC X s dh dl t M Q (o_spare S p m)) : CL 98 [.ref 0, vI p, vI m] (mkh X s dh dl t M) Q := by
  simp only [↓x_al_0, ↓x_il_1, ↓gd_0_3, ↓gi_hA_0, ↓gi_hB_0, ↓c_109, ↓x_il_2, ↓x_c, ↓c_110, ↓gr_0_14, ↓gr_0_9, ↓c_56, ↓gr_95_0, ↓x_ir, ↓ld_96, ↓n_98, ↓s_98_0, ↓bk_v, ↓bk_n, ↓bk_r, ↓be_98, ↓pv_i, ↓pv_r, ↓pv_0, ↓pv_l, wz_pk, wz_ti, wz_wz, vI_wz, wz_id, wz_0, List.length_cons, List.length_nil, ↓reduceIte, true_and, and_true, Int.reduceLE, Int.reduceLT, Int.reduceEq, not_true_eq_false, not_false_eq_true, false_or, or_false, true_or, or_true, ite_not, Int.reduceNeg, Int32.reduceToInt, Nat.reduceAdd, Nat.reduceLeDiff, Nat.reduceLT, Nat.reduceEqDiff, Int.reduceAdd, Int.reduceSub, Int.reduceMul, Nat.zero_le, pk_po_ne, pk_po_eq, pk_po_ix, rI, ne_eq, hC.at 3 rfl, hC.wzz 3 rfl, ↓C109 hC, ↓C110 hC, hp, hm]
  by_cases h2 : 0 ≤ p ∧ p < S 3 0
  · rw [if_pos h2]
    by_cases h3 : 0 ≤ m ∧ m ≤ 35
    · rw [if_pos h3]
      refine C56 hC hH hI h2 ?_
      intro M' f a1 a2
      have e := hP.ok (M' := M') (by rw [o_spare, if_pos h2, if_pos h3]) (hC.fxx f rfl) (FC.fxx f rfl)
      have a3 := a1 m h3.1 (by omega)
      have q8 : m < 36 := by omega
      have q0 : (0 : Int) ≤ m := h3.1
      simp only [↓x_al_0, ↓x_il_1, ↓gd_0_3, ↓gi_hA_0, ↓gi_hB_0, ↓c_109, ↓x_il_2, ↓x_c, ↓c_110, ↓gr_0_14, ↓gr_0_9, ↓c_56, ↓gr_95_0, ↓x_ir, ↓ld_96, ↓n_98, ↓s_98_0, ↓bk_v, ↓bk_n, ↓bk_r, ↓be_98, ↓pv_i, ↓pv_r, ↓pv_0, ↓pv_l, wz_pk, wz_ti, wz_wz, vI_wz, wz_id, wz_0, List.length_cons, List.length_nil, ↓reduceIte, true_and, and_true, Int.reduceLE, Int.reduceLT, Int.reduceEq, not_true_eq_false, not_false_eq_true, false_or, or_false, true_or, or_true, ite_not, Int.reduceNeg, Int32.reduceToInt, Nat.reduceAdd, Nat.reduceLeDiff, Nat.reduceLT, Nat.reduceEqDiff, Int.reduceAdd, Int.reduceSub, Int.reduceMul, Nat.zero_le, pk_po_ne, pk_po_eq, pk_po_ix, rI, ne_eq, hm, a3, q8, q0]
      exact e
    · rw [if_neg h3]
      exact hP.no 1 (by rw [o_spare, if_pos h2, if_neg h3]; rfl) hC.ref (FC.rfl.pw (by decide))
  · rw [if_neg h2]
    exact hP.no 0 (by rw [o_spare, if_neg h2]; rfl) hC.ref (FC.rfl.pw (by decide))
theorem K99 {d m w : Int} (hC : RC S M) (hH : hou S) (hI : crs S 78) (hd : wz d = d) (hm : wz m = m) (hw : wz w = w) (hP : PC X s dh dl t M Q (o_best S d m w)) : CL 99 [.ref 0, vI d, vI m, vI w] (mkh X s dh dl t M) Q := by
  have h1 := c78_proms hI
  have hnd := hH.nd
  simp only [↓x_al_0, ↓x_il_1, ↓gd_0_3, ↓gi_hA_2, ↓gi_hB_2, ↓c_109, ↓x_il_2, ↓x_c, ↓c_110, ↓x_il_3, ↓gr_0_14, ↓gr_0_9, ↓gr_hA_12, ↓gr_hB_12, ↓c_56, ↓gr_hA_13, ↓gr_hB_13, ↓c_58, ↓x_ne0, ↓gi_95_4, ↓x_go, ↓gi_95_5, ↓x_ir, ↓ld_hA_26, ↓ld_hA_27, ↓ld_hB_26, ↓ld_hB_27, ↓n_99, ↓s_99_0, ↓s_99_82, ↓s_99_89, ↓bk_v, ↓bk_n, ↓bk_r, ↓be_99, ↓pv_i, ↓pv_r, ↓pv_0, ↓pv_l, wz_pk, wz_ti, wz_wz, vI_wz, wz_id, wz_0, List.length_cons, List.length_nil, ↓reduceIte, true_and, and_true, Int.reduceLE, Int.reduceLT, Int.reduceEq, not_true_eq_false, not_false_eq_true, false_or, or_false, true_or, or_true, ite_not, Int.reduceNeg, Int32.reduceToInt, Nat.reduceAdd, Nat.reduceLeDiff, Nat.reduceLT, Nat.reduceEqDiff, Int.reduceAdd, Int.reduceSub, Int.reduceMul, Nat.zero_le, pk_po_ne, pk_po_eq, pk_po_ix, rI, ne_eq, hC.at 3 rfl, hC.wzz 3 rfl, hC.at 29 rfl, hC.wzz 29 rfl, ↓C109 hC, ↓C110 hC, hd, hm, hw]
  by_cases h2 : 0 ≤ d ∧ d < S 3 2
  · rw [if_pos h2]
    by_cases h3 : (0 ≤ m ∧ m ≤ 35) ∧ (0 ≤ w ∧ w ≤ 1)
    · rw [if_pos h3.1, if_pos h3.2]
      have b2 := hH.dbt d h2.1 h2.2
      have b3 := hH.amt d h2.1 h2.2
      have hsr := spN_rng hH hI b2 (S 78 9).toNat (by omega)
      refine ⟨⟨by omega, by omega⟩, ?_⟩
      refine C56 hC hH hI b2 ?_
      intro M' f a1 a2
      have hC' := hC.fxx f rfl
      have q8 : d < 6 := by omega
      have q0 : (0 : Int) ≤ d := h2.1
      have a30 := hC'.at 30 rfl d
      simp only [↓x_al_0, ↓x_il_1, ↓gd_0_3, ↓gi_hA_2, ↓gi_hB_2, ↓c_109, ↓x_il_2, ↓x_c, ↓c_110, ↓x_il_3, ↓gr_0_14, ↓gr_0_9, ↓gr_hA_12, ↓gr_hB_12, ↓c_56, ↓gr_hA_13, ↓gr_hB_13, ↓c_58, ↓x_ne0, ↓gi_95_4, ↓x_go, ↓gi_95_5, ↓x_ir, ↓ld_hA_26, ↓ld_hA_27, ↓ld_hB_26, ↓ld_hB_27, ↓n_99, ↓s_99_0, ↓s_99_82, ↓s_99_89, ↓bk_v, ↓bk_n, ↓bk_r, ↓be_99, ↓pv_i, ↓pv_r, ↓pv_0, ↓pv_l, wz_pk, wz_ti, wz_wz, vI_wz, wz_id, wz_0, List.length_cons, List.length_nil, ↓reduceIte, true_and, and_true, Int.reduceLE, Int.reduceLT, Int.reduceEq, not_true_eq_false, not_false_eq_true, false_or, or_false, true_or, or_true, ite_not, Int.reduceNeg, Int32.reduceToInt, Nat.reduceAdd, Nat.reduceLeDiff, Nat.reduceLT, Nat.reduceEqDiff, Int.reduceAdd, Int.reduceSub, Int.reduceMul, Nat.zero_le, pk_po_ne, pk_po_eq, pk_po_ix, rI, ne_eq, hd, a30, q8, q0]
      refine C58 (sp := spN S (S 29 d) (S 78 9).toNat) b3 h3.1 a1 hsr ?_
      intro M2 f2 g1 g2
      have e := hP.ok (M' := M2) (by rw [o_best, if_pos h2, if_pos h3]) (hC'.fxx f2 rfl) ((FC.fxx f rfl).trans (FC.fxx f2 rfl))
      clear a1 a2 hsr
      simp only [↓x_al_0, ↓x_il_1, ↓gd_0_3, ↓gi_hA_2, ↓gi_hB_2, ↓c_109, ↓x_il_2, ↓x_c, ↓c_110, ↓x_il_3, ↓gr_0_14, ↓gr_0_9, ↓gr_hA_12, ↓gr_hB_12, ↓c_56, ↓gr_hA_13, ↓gr_hB_13, ↓c_58, ↓x_ne0, ↓gi_95_4, ↓x_go, ↓gi_95_5, ↓x_ir, ↓ld_hA_26, ↓ld_hA_27, ↓ld_hB_26, ↓ld_hB_27, ↓n_99, ↓s_99_0, ↓s_99_82, ↓s_99_89, ↓bk_v, ↓bk_n, ↓bk_r, ↓be_99, ↓pv_i, ↓pv_r, ↓pv_0, ↓pv_l, wz_pk, wz_ti, wz_wz, vI_wz, wz_id, wz_0, List.length_cons, List.length_nil, ↓reduceIte, true_and, and_true, Int.reduceLE, Int.reduceLT, Int.reduceEq, not_true_eq_false, not_false_eq_true, false_or, or_false, true_or, or_true, ite_not, Int.reduceNeg, Int32.reduceToInt, Nat.reduceAdd, Nat.reduceLeDiff, Nat.reduceLT, Nat.reduceEqDiff, Int.reduceAdd, Int.reduceSub, Int.reduceMul, Nat.zero_le, pk_po_ne, pk_po_eq, pk_po_ix, rI, ne_eq, hw, g1, g2]
      grind
    · have e := hP.no 1 (by rw [o_best, if_pos h2, if_neg h3]; rfl) hC.ref (FC.rfl.pw (by decide))
      by_cases h4 : 0 ≤ m ∧ m ≤ 35
      · rw [if_pos h4, if_neg (fun h => h3 ⟨h4, h⟩)]
        exact e
      · rw [if_neg h4]
        exact e
  · rw [if_neg h2]
    exact hP.no 0 (by rw [o_best, if_neg h2]; rfl) hC.ref (FC.rfl.pw (by decide))
end C41
