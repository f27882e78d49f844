/-! THE REFERENCE: bytes told; images -/
def ar5 (a b c d e n : Int) : Int := if n < 4 then a else if n < 8 then b else if n < 12 then c else if n < 16 then d else e
theorem ap5_t {S : St} {a b c d e : Int} : apS (apS (apS (apS (apS S a) b) c) d) e 0 1 = S 0 1 + 20 := by
  have ap : ∀ (S : St) x, apS S x 0 1 = S 0 1 + 4 := fun S x => by simp [apS]
  rw [ap, ap, ap, ap, ap]
  omega
theorem ap5_1 {S : St} {a b c d e i : Int} : apS (apS (apS (apS (apS S a) b) c) d) e 1 i = if S 0 1 ≤ i ∧ i < S 0 1 + 20 then byt (ar5 a b c d e (i - S 0 1)) ((i - S 0 1) % 4) else S 1 i := by
  have ap : ∀ (S : St) x, apS S x 0 1 = S 0 1 + 4 := fun S x => by simp [apS]
  have ap1 : ∀ (S : St) x, apS S x 1 i = if S 0 1 ≤ i ∧ i < S 0 1 + 4 then byt x (i - S 0 1) else S 1 i := fun S x => by simp [apS]
  simp only [ap1, ap]
  unfold ar5
  by_cases h : S 0 1 ≤ i ∧ i < S 0 1 + 20
  · rw [if_pos h]
    by_cases c1 : i - S 0 1 < 4
    · rw [if_neg (by omega), if_neg (by omega), if_neg (by omega), if_neg (by omega), if_pos (by omega), if_pos c1]
      congr 1
      omega
    · rw [if_neg c1]
      by_cases c2 : i - S 0 1 < 8
      · rw [if_neg (by omega), if_neg (by omega), if_neg (by omega), if_pos (by omega), if_pos c2]
        congr 1
        omega
      · rw [if_neg c2]
        by_cases c3 : i - S 0 1 < 12
        · rw [if_neg (by omega), if_neg (by omega), if_pos (by omega), if_pos c3]
          congr 1
          omega
        · rw [if_neg c3]
          by_cases c4 : i - S 0 1 < 16
          · rw [if_neg (by omega), if_pos (by omega), if_pos c4]
            congr 1
            omega
          · rw [if_neg c4, if_pos (by omega)]
            congr 1
            omega
  · rw [if_neg h, if_neg (by omega), if_neg (by omega), if_neg (by omega), if_neg (by omega), if_neg (by omega)]
theorem ap5_o {S : St} {a b c d e i : Int} {n : Nat} (h1 : ¬ n = 1) (h2 : ¬ (n = 0 ∧ i = 1)) : apS (apS (apS (apS (apS S a) b) c) d) e n i = S n i := by
  simp [apS, h1, h2]
theorem byt_rng (x k : Int) : wz (byt x k) = byt x k := by unfold byt; exact wz_iand
section R72
variable {Q : MOut → MHp → Prop} {X : Nat × (Nat → Int32)} {s : Bool × Bool} {dh dl t : Nat} {M : Mem} {S : St}
theorem R122 {a b c d e : Int} (hR : RR S M) (hn : 0 ≤ S 0 1 ∧ S 0 1 ≤ 600) (hP : PR X s dh dl t M Q cA (o_feed S a b c d e)) : CL 122 [.ref 142, vI a, vI b, vI c, vI d, vI e] (mkh X s dh dl t M) Q := by
  have g0 := hR.taped
  have hR0 := hR.pw (a := 142) (i := 0) (x := 0) rfl
  have hF0 : FR M (po M 142 0 0) := FR.rfl.pw (by decide)
  by_cases h1 : 600 < S 0 1 + 20
  · have e1 := hP.ok (by rw [o_feed, if_pos h1]) hR0 hF0 th0
    have h2 : ¬ S 0 1 + 20 ≤ 600 := by omega
    simp (disch := omega) only [↓x_al_0, ↓x_c, ↓pi_142_0, ↓gi_142_2, ↓x_iadd, ↓x_le, ↓x_ir, ↓x_is_6, ↓x_il_6, ↓x_ge, ↓x_il_1, ↓x_go, ↓x_il_2, ↓x_il_3, ↓x_il_4, ↓x_il_5, ↓x_is_7, ↓gr_142_9, ↓x_il_7, ↓x_irem, ↓x_imul, ↓x_isub, ↓x_ishr, ↓x_iand, ↓x_dup_i, ↓x_dup_r, ↓pi_142_2, ↓x_inc_6, ↓st_144, ↓n_122, ↓s_122_0, ↓s_122_20, ↓s_122_40, ↓s_122_51, ↓s_122_62, ↓s_122_74, ↓s_122_76, ↓s_122_120, ↓pv_i, ↓pv_r, ↓pv_0, ↓pv_l, wz_pk, wz_ti, wz_wz, vI_wz, wz_id, wz_0, List.length_cons, List.length_nil, ↓reduceIte, true_and, and_true, Int.reduceLE, Int.reduceLT, Int.reduceEq, not_true_eq_false, not_false_eq_true, false_or, or_false, true_or, or_true, ite_not, Int.reduceNeg, Int32.reduceToInt, Nat.reduceAdd, Nat.reduceLeDiff, Nat.reduceLT, Nat.reduceEqDiff, Int.reduceAdd, Int.reduceSub, Int.reduceMul, Nat.zero_le, pk_po_ne, pk_po_eq, pk_po_ix, rI, ne_eq, g0, h1, h2, if_true, if_false]
    exact e1
  · have h2 : S 0 1 + 20 ≤ 600 := by omega
    have key : ∀ M1, FR M M1 → (∀ k i, ¬ (k = 142 ∧ i = 2) → k ≠ 144 → pk M1 k i = pk (po M 142 0 0) k i) → pk M1 142 2 = S 0 1 + ((0 : Nat) : Int) → (∀ i, pk M1 144 i = if S 0 1 ≤ i ∧ i < S 0 1 + ((0 : Nat) : Int) then byt (ar5 a b c d e (i - S 0 1)) ((i - S 0 1) % 4) else pk M 144 i) → ∀ z, EX 122 (sx 122 23) [.ref 142, vI a, vI b, vI c, vI d, vI e, vI ((0 : Nat) : Int), z] [] (mkh X s dh dl t M1) Q := by
      refine lp (n := 20) (fun n => ∀ M1, FR M M1 → (∀ k i, ¬ (k = 142 ∧ i = 2) → k ≠ 144 → pk M1 k i = pk (po M 142 0 0) k i) → pk M1 142 2 = S 0 1 + (n : Int) → (∀ i, pk M1 144 i = if S 0 1 ≤ i ∧ i < S 0 1 + (n : Int) then byt (ar5 a b c d e (i - S 0 1)) ((i - S 0 1) % 4) else pk M 144 i) → ∀ z, EX 122 (sx 122 23) [.ref 142, vI a, vI b, vI c, vI d, vI e, vI (n : Int), z] [] (mkh X s dh dl t M1) Q) ?_ ?_
      · intro M1 hF1 f1 f2 f3 z
        simp only [show ((20 : Nat) : Int) = 20 from rfl] at f3
        have hs : ∀ k i, ¬ (k = 142 ∧ i = 2) → k ≠ 144 → pk M1 k i = pk (po M 142 0 0) k i := f1
        have hR1 : RR (apS (apS (apS (apS (apS S a) b) c) d) e) M1 := by
          obtain ⟨q1, q2, q3, q4, q5, q6, q7, q8, q9⟩ := hR0
          have o := fun (n : Nat) (h : ¬ n = 1) (h0 : ¬ n = 0) => (funext (fun i => ap5_o (S := S) (a := a) (b := b) (c := c) (d := d) (e := e) (i := i) h (fun x => h0 x.1)))
          have fr : ∀ k i, rst k i = true → k ≠ 144 → ¬ (k = 142 ∧ i = 2) → pk M1 k i = pk (po M 142 0 0) k i := fun k i _ h h' => f1 k i h' h
          refine ⟨?_, ?_, ?_, (q4.sm (fun k i h => f1 k i ?_ ?_)).st (fun k h1 h2 => o k (by omega) (by omega)), (q5.sm (fun k i h => f1 k i ?_ ?_)).st (fun k h1 h2 => o k (by omega) (by omega)), ?_, ?_, ?_, fun j hj => ?_⟩
          · rw [ap5_t, f2]; rfl
          · intro i h3 h4
            rw [ap5_t] at h4
            rw [f3, ap5_1]
            by_cases h5 : S 0 1 ≤ i ∧ i < S 0 1 + 20
            · rw [if_pos h5, if_pos h5]
            · rw [if_neg h5, if_neg h5, ← q2 i h3 (by omega), pk_po_ne (by decide)]
          · rw [f1 _ _ (by decide) (by decide), ap5_o (by decide) (by decide)]; exact q3
          · rintro ⟨rfl, rfl⟩; cases h
          · rintro rfl; cases h
          · rintro ⟨rfl, rfl⟩; cases h
          · rintro rfl; cases h
          · have q10 := q6.sm (M' := M1) (fun k i h => f1 k i (by rintro ⟨rfl, rfl⟩; cases h) (by rintro rfl; cases h))
            unfold RRc at q10 ⊢
            simp only [o 78 (by decide) (by decide), o 79 (by decide) (by decide), o 80 (by decide) (by decide), o 81 (by decide) (by decide), o 82 (by decide) (by decide), o 83 (by decide) (by decide), o 84 (by decide) (by decide), o 85 (by decide) (by decide), o 86 (by decide) (by decide), o 87 (by decide) (by decide), o 88 (by decide) (by decide), o 89 (by decide) (by decide)]
            exact q10
          · intro k h3 h4
            rw [f1 _ _ (by omega) (by decide), ap5_o (by decide) (by omega)]; exact q7 k h3 h4
          · rw [f1 _ _ (by decide) (by decide), ap5_o (by decide) (by decide)]; exact q8
          · rw [ap5_o (by decide) (by decide)] at hj
            exact ((q9 j hj).sm (fun i => f1 _ _ (by omega) (by decide))).st (fun k hk => o _ (by omega) (by omega))
        have e1 := hP.ok (M' := M1) (by rw [o_feed, if_neg h1]) hR1 hF1 (by rw [f1 _ _ (by decide) (by decide)]; exact th0)
        have e2 : (20 : Int) ≤ ((20 : Nat) : Int) := by omega
        have f2' : pk M1 142 2 = S 0 1 + 20 := f2
        rw [s_122_23]
        simp (disch := omega) only [↓x_al_0, ↓x_c, ↓pi_142_0, ↓gi_142_2, ↓x_iadd, ↓x_le, ↓x_ir, ↓x_is_6, ↓x_il_6, ↓x_ge, ↓x_il_1, ↓x_go, ↓x_il_2, ↓x_il_3, ↓x_il_4, ↓x_il_5, ↓x_is_7, ↓gr_142_9, ↓x_il_7, ↓x_irem, ↓x_imul, ↓x_isub, ↓x_ishr, ↓x_iand, ↓x_dup_i, ↓x_dup_r, ↓pi_142_2, ↓x_inc_6, ↓st_144, ↓n_122, ↓s_122_0, ↓s_122_20, ↓s_122_40, ↓s_122_51, ↓s_122_62, ↓s_122_74, ↓s_122_76, ↓s_122_120, ↓pv_i, ↓pv_r, ↓pv_0, ↓pv_l, wz_pk, wz_ti, wz_wz, vI_wz, wz_id, wz_0, List.length_cons, List.length_nil, ↓reduceIte, true_and, and_true, Int.reduceLE, Int.reduceLT, Int.reduceEq, not_true_eq_false, not_false_eq_true, false_or, or_false, true_or, or_true, ite_not, Int.reduceNeg, Int32.reduceToInt, Nat.reduceAdd, Nat.reduceLeDiff, Nat.reduceLT, Nat.reduceEqDiff, Int.reduceAdd, Int.reduceSub, Int.reduceMul, Nat.zero_le, pk_po_ne, pk_po_eq, pk_po_ix, rI, ne_eq, e2, if_true, f2']
        exact e1
      · intro n hn2 ih M1 hF1 f1 f2 f3 z
        have e2 : ¬ (20 : Int) ≤ (n : Int) := by omega
        have b1 : S 0 1 + (n : Int) < 600 := by omega
        have b2 : 0 ≤ S 0 1 + (n : Int) := by omega
        have ih2 := ih (po (po M1 144 (S 0 1 + n) (byt (ar5 a b c d e n) ((n : Int) % 4))) 142 2 (S 0 1 + n + 1)) ((hF1.pw (by decide)).pw (by decide)) (fun k i h3 h4 => by
            rw [pk_po, if_neg h3, pk_po_ne h4]; exact f1 k i h3 h4) (by rw [pk_po_eq, show S 0 1 + ((n + 1 : Nat) : Int) = S 0 1 + n + 1 by omega]; exact wz_id (by omega) (by omega)) (fun i => by
            rw [pk_po_ne (by decide), pk_po]
            by_cases c1 : i = S 0 1 + n
            · subst c1
              rw [if_pos ⟨rfl, rfl⟩, if_pos (by omega), byt_rng, show S 0 1 + (n : Int) - S 0 1 = n by omega]
            · rw [if_neg (fun x => c1 x.2), f3]
              by_cases c2 : S 0 1 ≤ i ∧ i < S 0 1 + (n : Int)
              · rw [if_pos c2, if_pos (by omega)]
              · rw [if_neg c2, if_neg (by omega)])
        have td : Int.tdiv (n : Int) 4 = (n : Int) / 4 := Int.tdiv_eq_ediv_of_nonneg (by omega)
        have ev : ∀ v, v = ar5 a b c d e n → iand (ishr v (24 - 8 * ((n : Int) - (n : Int) / 4 * 4))) 255 = byt (ar5 a b c d e n) ((n : Int) % 4) := by
          intro v hv
          subst hv
          unfold byt
          have h4 : (n : Int) % 4 = 0 ∨ (n : Int) % 4 = 1 ∨ (n : Int) % 4 = 2 ∨ (n : Int) % 4 = 3 := by omega
          rcases h4 with h4 | h4 | h4 | h4
          · rw [h4, show 24 - 8 * ((n : Int) - (n : Int) / 4 * 4) = 24 by omega]; exact ishr_and24 _
          · rw [h4, show 24 - 8 * ((n : Int) - (n : Int) / 4 * 4) = 16 by omega]; exact ishr_and16b _
          · rw [h4, show 24 - 8 * ((n : Int) - (n : Int) / 4 * 4) = 8 by omega]; exact ishr_and8 _
          · rw [h4, show 24 - 8 * ((n : Int) - (n : Int) / 4 * 4) = 0 by omega]; exact ishr_and0 _
        have r1 : ∀ y, pk (po M1 144 (S 0 1 + n) y) 142 2 = S 0 1 + n := fun y => by rw [pk_po_ne (by decide)]; exact f2
        clear ih hP hR hR0 f1 f3
        rw [s_122_23]
        by_cases c1 : (n : Int) < 4
        · have c1' : ¬ 4 ≤ (n : Int) := by omega
          have ev := ev a (by unfold ar5; rw [if_pos c1])
          simp (disch := omega) only [↓x_al_0, ↓x_c, ↓pi_142_0, ↓gi_142_2, ↓x_iadd, ↓x_le, ↓x_ir, ↓x_is_6, ↓x_il_6, ↓x_ge, ↓x_il_1, ↓x_go, ↓x_il_2, ↓x_il_3, ↓x_il_4, ↓x_il_5, ↓x_is_7, ↓gr_142_9, ↓x_il_7, ↓x_irem, ↓x_imul, ↓x_isub, ↓x_ishr, ↓x_iand, ↓x_dup_i, ↓x_dup_r, ↓pi_142_2, ↓x_inc_6, ↓st_144, ↓n_122, ↓s_122_0, ↓s_122_20, ↓s_122_40, ↓s_122_51, ↓s_122_62, ↓s_122_74, ↓s_122_76, ↓s_122_120, ↓pv_i, ↓pv_r, ↓pv_0, ↓pv_l, wz_pk, wz_ti, wz_wz, vI_wz, wz_id, wz_0, List.length_cons, List.length_nil, ↓reduceIte, true_and, and_true, Int.reduceLE, Int.reduceLT, Int.reduceEq, not_true_eq_false, not_false_eq_true, false_or, or_false, true_or, or_true, ite_not, Int.reduceNeg, Int32.reduceToInt, Nat.reduceAdd, Nat.reduceLeDiff, Nat.reduceLT, Nat.reduceEqDiff, Int.reduceAdd, Int.reduceSub, Int.reduceMul, Nat.zero_le, pk_po_ne, pk_po_eq, pk_po_ix, rI, ne_eq, e2, if_false, if_true, c1', f2, b1, b2, td, ev, r1]
          exact ih2 _
        · have c1' : 4 ≤ (n : Int) := by omega
          by_cases c2 : (n : Int) < 8
          · have c2' : ¬ 8 ≤ (n : Int) := by omega
            have ev := ev b (by unfold ar5; rw [if_neg c1, if_pos c2])
            simp (disch := omega) only [↓x_al_0, ↓x_c, ↓pi_142_0, ↓gi_142_2, ↓x_iadd, ↓x_le, ↓x_ir, ↓x_is_6, ↓x_il_6, ↓x_ge, ↓x_il_1, ↓x_go, ↓x_il_2, ↓x_il_3, ↓x_il_4, ↓x_il_5, ↓x_is_7, ↓gr_142_9, ↓x_il_7, ↓x_irem, ↓x_imul, ↓x_isub, ↓x_ishr, ↓x_iand, ↓x_dup_i, ↓x_dup_r, ↓pi_142_2, ↓x_inc_6, ↓st_144, ↓n_122, ↓s_122_0, ↓s_122_20, ↓s_122_40, ↓s_122_51, ↓s_122_62, ↓s_122_74, ↓s_122_76, ↓s_122_120, ↓pv_i, ↓pv_r, ↓pv_0, ↓pv_l, wz_pk, wz_ti, wz_wz, vI_wz, wz_id, wz_0, List.length_cons, List.length_nil, ↓reduceIte, true_and, and_true, Int.reduceLE, Int.reduceLT, Int.reduceEq, not_true_eq_false, not_false_eq_true, false_or, or_false, true_or, or_true, ite_not, Int.reduceNeg, Int32.reduceToInt, Nat.reduceAdd, Nat.reduceLeDiff, Nat.reduceLT, Nat.reduceEqDiff, Int.reduceAdd, Int.reduceSub, Int.reduceMul, Nat.zero_le, pk_po_ne, pk_po_eq, pk_po_ix, rI, ne_eq, e2, if_false, if_true, c1', c2', f2, b1, b2, td, ev, r1]
            exact ih2 _
          · have c2' : 8 ≤ (n : Int) := by omega
            by_cases c3 : (n : Int) < 12
            · have c3' : ¬ 12 ≤ (n : Int) := by omega
              have ev := ev c (by unfold ar5; rw [if_neg c1, if_neg c2, if_pos c3])
              simp (disch := omega) only [↓x_al_0, ↓x_c, ↓pi_142_0, ↓gi_142_2, ↓x_iadd, ↓x_le, ↓x_ir, ↓x_is_6, ↓x_il_6, ↓x_ge, ↓x_il_1, ↓x_go, ↓x_il_2, ↓x_il_3, ↓x_il_4, ↓x_il_5, ↓x_is_7, ↓gr_142_9, ↓x_il_7, ↓x_irem, ↓x_imul, ↓x_isub, ↓x_ishr, ↓x_iand, ↓x_dup_i, ↓x_dup_r, ↓pi_142_2, ↓x_inc_6, ↓st_144, ↓n_122, ↓s_122_0, ↓s_122_20, ↓s_122_40, ↓s_122_51, ↓s_122_62, ↓s_122_74, ↓s_122_76, ↓s_122_120, ↓pv_i, ↓pv_r, ↓pv_0, ↓pv_l, wz_pk, wz_ti, wz_wz, vI_wz, wz_id, wz_0, List.length_cons, List.length_nil, ↓reduceIte, true_and, and_true, Int.reduceLE, Int.reduceLT, Int.reduceEq, not_true_eq_false, not_false_eq_true, false_or, or_false, true_or, or_true, ite_not, Int.reduceNeg, Int32.reduceToInt, Nat.reduceAdd, Nat.reduceLeDiff, Nat.reduceLT, Nat.reduceEqDiff, Int.reduceAdd, Int.reduceSub, Int.reduceMul, Nat.zero_le, pk_po_ne, pk_po_eq, pk_po_ix, rI, ne_eq, e2, if_false, if_true, c1', c2', c3', f2, b1, b2, td, ev, r1]
              exact ih2 _
            · have c3' : 12 ≤ (n : Int) := by omega
              by_cases c4 : (n : Int) < 16
              · have c4' : ¬ 16 ≤ (n : Int) := by omega
                have ev := ev d (by unfold ar5; rw [if_neg c1, if_neg c2, if_neg c3, if_pos c4])
                simp (disch := omega) only [↓x_al_0, ↓x_c, ↓pi_142_0, ↓gi_142_2, ↓x_iadd, ↓x_le, ↓x_ir, ↓x_is_6, ↓x_il_6, ↓x_ge, ↓x_il_1, ↓x_go, ↓x_il_2, ↓x_il_3, ↓x_il_4, ↓x_il_5, ↓x_is_7, ↓gr_142_9, ↓x_il_7, ↓x_irem, ↓x_imul, ↓x_isub, ↓x_ishr, ↓x_iand, ↓x_dup_i, ↓x_dup_r, ↓pi_142_2, ↓x_inc_6, ↓st_144, ↓n_122, ↓s_122_0, ↓s_122_20, ↓s_122_40, ↓s_122_51, ↓s_122_62, ↓s_122_74, ↓s_122_76, ↓s_122_120, ↓pv_i, ↓pv_r, ↓pv_0, ↓pv_l, wz_pk, wz_ti, wz_wz, vI_wz, wz_id, wz_0, List.length_cons, List.length_nil, ↓reduceIte, true_and, and_true, Int.reduceLE, Int.reduceLT, Int.reduceEq, not_true_eq_false, not_false_eq_true, false_or, or_false, true_or, or_true, ite_not, Int.reduceNeg, Int32.reduceToInt, Nat.reduceAdd, Nat.reduceLeDiff, Nat.reduceLT, Nat.reduceEqDiff, Int.reduceAdd, Int.reduceSub, Int.reduceMul, Nat.zero_le, pk_po_ne, pk_po_eq, pk_po_ix, rI, ne_eq, e2, if_false, if_true, c1', c2', c3', c4', f2, b1, b2, td, ev, r1]
                exact ih2 _
              · have c4' : 16 ≤ (n : Int) := by omega
                have ev := ev e (by unfold ar5; rw [if_neg c1, if_neg c2, if_neg c3, if_neg c4])
                simp (disch := omega) only [↓x_al_0, ↓x_c, ↓pi_142_0, ↓gi_142_2, ↓x_iadd, ↓x_le, ↓x_ir, ↓x_is_6, ↓x_il_6, ↓x_ge, ↓x_il_1, ↓x_go, ↓x_il_2, ↓x_il_3, ↓x_il_4, ↓x_il_5, ↓x_is_7, ↓gr_142_9, ↓x_il_7, ↓x_irem, ↓x_imul, ↓x_isub, ↓x_ishr, ↓x_iand, ↓x_dup_i, ↓x_dup_r, ↓pi_142_2, ↓x_inc_6, ↓st_144, ↓n_122, ↓s_122_0, ↓s_122_20, ↓s_122_40, ↓s_122_51, ↓s_122_62, ↓s_122_74, ↓s_122_76, ↓s_122_120, ↓pv_i, ↓pv_r, ↓pv_0, ↓pv_l, wz_pk, wz_ti, wz_wz, vI_wz, wz_id, wz_0, List.length_cons, List.length_nil, ↓reduceIte, true_and, and_true, Int.reduceLE, Int.reduceLT, Int.reduceEq, not_true_eq_false, not_false_eq_true, false_or, or_false, true_or, or_true, ite_not, Int.reduceNeg, Int32.reduceToInt, Nat.reduceAdd, Nat.reduceLeDiff, Nat.reduceLT, Nat.reduceEqDiff, Int.reduceAdd, Int.reduceSub, Int.reduceMul, Nat.zero_le, pk_po_ne, pk_po_eq, pk_po_ix, rI, ne_eq, e2, if_false, if_true, c1', c2', c3', c4', f2, b1, b2, td, ev, r1]
                exact ih2 _
    have k := key (po M 142 0 0) hF0 (fun _ _ _ _ => rfl) (by rw [pk_po_ix (by decide), g0]; simp) (fun i => by rw [pk_po_ne (by decide), if_neg (by omega)]) .null
    simp (disch := omega) only [↓x_al_0, ↓x_c, ↓pi_142_0, ↓gi_142_2, ↓x_iadd, ↓x_le, ↓x_ir, ↓x_is_6, ↓x_il_6, ↓x_ge, ↓x_il_1, ↓x_go, ↓x_il_2, ↓x_il_3, ↓x_il_4, ↓x_il_5, ↓x_is_7, ↓gr_142_9, ↓x_il_7, ↓x_irem, ↓x_imul, ↓x_isub, ↓x_ishr, ↓x_iand, ↓x_dup_i, ↓x_dup_r, ↓pi_142_2, ↓x_inc_6, ↓st_144, ↓n_122, ↓s_122_0, ↓s_122_20, ↓s_122_40, ↓s_122_51, ↓s_122_62, ↓s_122_74, ↓s_122_76, ↓s_122_120, ↓pv_i, ↓pv_r, ↓pv_0, ↓pv_l, wz_pk, wz_ti, wz_wz, vI_wz, wz_id, wz_0, List.length_cons, List.length_nil, ↓reduceIte, true_and, and_true, Int.reduceLE, Int.reduceLT, Int.reduceEq, not_true_eq_false, not_false_eq_true, false_or, or_false, true_or, or_true, ite_not, Int.reduceNeg, Int32.reduceToInt, Nat.reduceAdd, Nat.reduceLeDiff, Nat.reduceLT, Nat.reduceEqDiff, Int.reduceAdd, Int.reduceSub, Int.reduceMul, Nat.zero_le, pk_po_ne, pk_po_eq, pk_po_ix, rI, ne_eq, g0, h1, h2, if_true, if_false]
    exact k
/-- a run of numbers from one row into another -/
def cpi (M : Mem) (d : Nat) (p : Int) (a : Nat) (q n : Int) : Mem := fun e j => if e = d ∧ p ≤ j ∧ j < p + n then M a (j - p + q) else M e j
theorem cpi_0 {d a : Nat} {p q : Int} : cpi M d p a q 0 = M := by
  funext e j
  unfold cpi
  rw [if_neg (by omega)]
theorem pk_cpi {d a e : Nat} {p q n j : Int} : pk (cpi M d p a q n) e j = if e = d ∧ p ≤ j ∧ j < p + n then pk M a (j - p + q) else pk M e j := by
  unfold pk cpi
  split <;> rfl
theorem cpi_s {d a : Nat} {p q n : Int} (hn : 0 ≤ n) (hd : a ≠ d) : po (cpi M d p a q n) d (p + n) (pk (cpi M d p a q n) a (q + n)) = cpi M d p a q (n + 1) := by
  funext e j
  have h1 : pk (cpi M d p a q n) a (q + n) = (M a (q + n)).toInt := by
    rw [pk_cpi, if_neg (fun h => hd h.1)]
    rfl
  rw [h1]
  simp only [cpi, po, Int32.ofInt_toInt]
  by_cases c : e = d ∧ j = p + n
  · obtain ⟨rfl, rfl⟩ := c
    rw [if_pos ⟨rfl, rfl⟩, if_pos ⟨rfl, by omega, by omega⟩]
    congr 1
    omega
  · rw [if_neg c]
    by_cases c2 : e = d ∧ p ≤ j ∧ j < p + n
    · rw [if_pos c2, if_pos ⟨c2.1, c2.2.1, by omega⟩]
    · rw [if_neg c2, if_neg]
      rintro ⟨h1, h2, h3⟩
      exact c2 ⟨h1, h2, by have : ¬ j = p + n := fun h => c ⟨h1, h⟩; omega⟩
theorem R194k {r N : Nat} {q : Int} {n : Nat} (hS : SH (swp s r) = (0, N, r, 0)) (hr : r < NCe) (hr2 : r ≠ 174) (hn : n ≤ N) (hN : N ≤ 100) (hq : 0 ≤ q ∧ q + n ≤ 468) : CL 194 [.ref 142, vI q, .ref r, vI n, vI 1] (mkh X s dh dl t M) Q ↔ Q (rI (q + n)) (mkh X s dh dl t (cpi M 174 q r 0 n)) := by
  have key : EX 194 (sx 194 3) [.ref 142, vI q, .ref r, vI n, vI 1, vI ((0 : Nat) : Int)] [] (mkh X s dh dl t (cpi M 174 q r 0 ((0 : Nat) : Int))) Q ↔ Q (rI (q + n)) (mkh X s dh dl t (cpi M 174 q r 0 n)) := by
    refine lp (n := n) (fun i => EX 194 (sx 194 3) [.ref 142, vI q, .ref r, vI n, vI 1, vI (i : Int)] [] (mkh X s dh dl t (cpi M 174 q r 0 (i : Int))) Q ↔ _) ?_ ?_
    · have e1 : (n : Int) ≤ n := Int.le_refl _
      conv => lhs; rw [s_194_3]
      simp (disch := omega) only [↓x_c, ↓x_is_5, ↓x_il_5, ↓x_il_3, ↓x_ge, ↓x_il_4, ↓x_eq0, ↓x_al_0, ↓gr_142_59, ↓x_il_1, ↓x_iadd, ↓x_al_2, ↓x_go, ↓x_inc_5, ↓x_ir, ↓ld_174, ↓st_174, ↓n_194, ↓s_194_0, ↓s_194_30, ↓s_194_43, ↓s_194_49, ↓pv_i, ↓pv_r, ↓pv_0, ↓pv_l, wz_pk, wz_ti, wz_wz, vI_wz, wz_id, wz_0, List.length_cons, List.length_nil, ↓reduceIte, true_and, and_true, Int.reduceLE, Int.reduceLT, Int.reduceEq, not_true_eq_false, not_false_eq_true, false_or, or_false, true_or, or_true, ite_not, Int.reduceNeg, Int32.reduceToInt, Nat.reduceAdd, Nat.reduceLeDiff, Nat.reduceLT, Nat.reduceEqDiff, Int.reduceAdd, Int.reduceSub, Int.reduceMul, Nat.zero_le, pk_po_ne, pk_po_eq, pk_po_ix, rI, ne_eq, e1, if_true]
    · intro i hi ih
      have e1 : ¬ (n : Int) ≤ i := by omega
      have b1 : (i : Int) < N := by omega
      have b2 : 0 ≤ (i : Int) := by omega
      have b3 : q + (i : Int) < 468 := by omega
      have b4 : 0 ≤ q + (i : Int) := by omega
      have cs := cpi_s (M := M) (d := 174) (p := q) (a := r) (q := 0) (n := i) (by omega) hr2
      rw [Int.zero_add] at cs
      rw [← ih, show ((i + 1 : Nat) : Int) = (i : Int) + 1 by omega, ← cs]
      conv => lhs; rw [s_194_3]
      simp (disch := omega) only [↓x_c, ↓x_is_5, ↓x_il_5, ↓x_il_3, ↓x_ge, ↓x_il_4, ↓x_eq0, ↓x_al_0, ↓gr_142_59, ↓x_il_1, ↓x_iadd, ↓x_al_2, ↓x_go, ↓x_inc_5, ↓x_ir, ↓ld_174, ↓st_174, ↓n_194, ↓s_194_0, ↓s_194_30, ↓s_194_43, ↓s_194_49, ↓pv_i, ↓pv_r, ↓pv_0, ↓pv_l, wz_pk, wz_ti, wz_wz, vI_wz, wz_id, wz_0, List.length_cons, List.length_nil, ↓reduceIte, true_and, and_true, Int.reduceLE, Int.reduceLT, Int.reduceEq, not_true_eq_false, not_false_eq_true, false_or, or_false, true_or, or_true, ite_not, Int.reduceNeg, Int32.reduceToInt, Nat.reduceAdd, Nat.reduceLeDiff, Nat.reduceLT, Nat.reduceEqDiff, Int.reduceAdd, Int.reduceSub, Int.reduceMul, Nat.zero_le, pk_po_ne, pk_po_eq, pk_po_ix, rI, ne_eq, e1, if_false, ↓x_iald_g (a := r) hS hr, Int.zero_add, b1, b2, b3, b4]
      rw [show ((0 : Nat) : Int) + (i : Int) = i by omega]
  simp only [Int.ofNat_zero, cpi_0] at key
  conv => lhs; rw [n_194]
  simp only [↓x_c, ↓x_is_5, ↓x_il_5, ↓x_il_3, ↓x_ge, ↓x_il_4, ↓x_eq0, ↓x_al_0, ↓gr_142_59, ↓x_il_1, ↓x_iadd, ↓x_al_2, ↓x_go, ↓x_inc_5, ↓x_ir, ↓ld_174, ↓st_174, ↓n_194, ↓s_194_0, ↓s_194_30, ↓s_194_43, ↓s_194_49, ↓pv_i, ↓pv_r, ↓pv_0, ↓pv_l, wz_pk, wz_ti, wz_wz, vI_wz, wz_id, wz_0, List.length_cons, List.length_nil, ↓reduceIte, true_and, and_true, Int.reduceLE, Int.reduceLT, Int.reduceEq, not_true_eq_false, not_false_eq_true, false_or, or_false, true_or, or_true, ite_not, Int.reduceNeg, Int32.reduceToInt, Nat.reduceAdd, Nat.reduceLeDiff, Nat.reduceLT, Nat.reduceEqDiff, Int.reduceAdd, Int.reduceSub, Int.reduceMul, Nat.zero_le, pk_po_ne, pk_po_eq, pk_po_ix, rI, ne_eq]
  exact key
theorem R194r {r N : Nat} {q : Int} {n : Nat} (hS : SH (swp s r) = (0, N, r, 0)) (hr : r < NCe) (hr2 : r ≠ 174) (hn : n ≤ N) (hN : N ≤ 100) (hq : 0 ≤ q ∧ q + n ≤ 468) : CL 194 [.ref 142, vI q, .ref r, vI n, vI 0] (mkh X s dh dl t M) Q ↔ Q (rI (q + n)) (mkh X s dh dl t (cpi M r 0 174 q n)) := by
  have key : EX 194 (sx 194 3) [.ref 142, vI q, .ref r, vI n, vI 0, vI ((0 : Nat) : Int)] [] (mkh X s dh dl t (cpi M r 0 174 q ((0 : Nat) : Int))) Q ↔ Q (rI (q + n)) (mkh X s dh dl t (cpi M r 0 174 q n)) := by
    refine lp (n := n) (fun i => EX 194 (sx 194 3) [.ref 142, vI q, .ref r, vI n, vI 0, vI (i : Int)] [] (mkh X s dh dl t (cpi M r 0 174 q (i : Int))) Q ↔ _) ?_ ?_
    · have e1 : (n : Int) ≤ n := Int.le_refl _
      conv => lhs; rw [s_194_3]
      simp (disch := omega) only [↓x_c, ↓x_is_5, ↓x_il_5, ↓x_il_3, ↓x_ge, ↓x_il_4, ↓x_eq0, ↓x_al_0, ↓gr_142_59, ↓x_il_1, ↓x_iadd, ↓x_al_2, ↓x_go, ↓x_inc_5, ↓x_ir, ↓ld_174, ↓st_174, ↓n_194, ↓s_194_0, ↓s_194_30, ↓s_194_43, ↓s_194_49, ↓pv_i, ↓pv_r, ↓pv_0, ↓pv_l, wz_pk, wz_ti, wz_wz, vI_wz, wz_id, wz_0, List.length_cons, List.length_nil, ↓reduceIte, true_and, and_true, Int.reduceLE, Int.reduceLT, Int.reduceEq, not_true_eq_false, not_false_eq_true, false_or, or_false, true_or, or_true, ite_not, Int.reduceNeg, Int32.reduceToInt, Nat.reduceAdd, Nat.reduceLeDiff, Nat.reduceLT, Nat.reduceEqDiff, Int.reduceAdd, Int.reduceSub, Int.reduceMul, Nat.zero_le, pk_po_ne, pk_po_eq, pk_po_ix, rI, ne_eq, e1, if_true]
    · intro i hi ih
      have e1 : ¬ (n : Int) ≤ i := by omega
      have b1 : (i : Int) < N := by omega
      have b2 : 0 ≤ (i : Int) := by omega
      have b3 : q + (i : Int) < 468 := by omega
      have b4 : 0 ≤ q + (i : Int) := by omega
      have cs := cpi_s (M := M) (d := r) (p := 0) (a := 174) (q := q) (n := i) (by omega) (fun h => hr2 h.symm)
      rw [Int.zero_add] at cs
      rw [← ih, show ((i + 1 : Nat) : Int) = (i : Int) + 1 by omega, ← cs]
      conv => lhs; rw [s_194_3]
      simp (disch := omega) only [↓x_c, ↓x_is_5, ↓x_il_5, ↓x_il_3, ↓x_ge, ↓x_il_4, ↓x_eq0, ↓x_al_0, ↓gr_142_59, ↓x_il_1, ↓x_iadd, ↓x_al_2, ↓x_go, ↓x_inc_5, ↓x_ir, ↓ld_174, ↓st_174, ↓n_194, ↓s_194_0, ↓s_194_30, ↓s_194_43, ↓s_194_49, ↓pv_i, ↓pv_r, ↓pv_0, ↓pv_l, wz_pk, wz_ti, wz_wz, vI_wz, wz_id, wz_0, List.length_cons, List.length_nil, ↓reduceIte, true_and, and_true, Int.reduceLE, Int.reduceLT, Int.reduceEq, not_true_eq_false, not_false_eq_true, false_or, or_false, true_or, or_true, ite_not, Int.reduceNeg, Int32.reduceToInt, Nat.reduceAdd, Nat.reduceLeDiff, Nat.reduceLT, Nat.reduceEqDiff, Int.reduceAdd, Int.reduceSub, Int.reduceMul, Nat.zero_le, pk_po_ne, pk_po_eq, pk_po_ix, rI, ne_eq, e1, if_false, if_true, ↓x_iast_g (a := r) hS hr, Int.zero_add, b1, b2, b3, b4]
      rw [show ((0 : Nat) : Int) + (i : Int) = i by omega]
  simp only [Int.ofNat_zero, cpi_0] at key
  conv => lhs; rw [n_194]
  simp only [↓x_c, ↓x_is_5, ↓x_il_5, ↓x_il_3, ↓x_ge, ↓x_il_4, ↓x_eq0, ↓x_al_0, ↓gr_142_59, ↓x_il_1, ↓x_iadd, ↓x_al_2, ↓x_go, ↓x_inc_5, ↓x_ir, ↓ld_174, ↓st_174, ↓n_194, ↓s_194_0, ↓s_194_30, ↓s_194_43, ↓s_194_49, ↓pv_i, ↓pv_r, ↓pv_0, ↓pv_l, wz_pk, wz_ti, wz_wz, vI_wz, wz_id, wz_0, List.length_cons, List.length_nil, ↓reduceIte, true_and, and_true, Int.reduceLE, Int.reduceLT, Int.reduceEq, not_true_eq_false, not_false_eq_true, false_or, or_false, true_or, or_true, ite_not, Int.reduceNeg, Int32.reduceToInt, Nat.reduceAdd, Nat.reduceLeDiff, Nat.reduceLT, Nat.reduceEqDiff, Int.reduceAdd, Int.reduceSub, Int.reduceMul, Nat.zero_le, pk_po_ne, pk_po_eq, pk_po_ix, rI, ne_eq]
  exact key
end R72
