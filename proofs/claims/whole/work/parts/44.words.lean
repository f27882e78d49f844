section C44w
variable {Q : MOut → MHp → Prop} {X : Nat × (Nat → Int32)} {s : Bool × Bool} {dh dl t : Nat} {M : Mem} {S : St} {p f n : Int} {k pc : Nat} {is : List (Nat × MI)} {ls st : List Value} {h : MHp}
theorem x_str {j fo idx : Nat} (hj : j < 1000) : EX k ((pc, I_str j fo idx) :: is) ls st h Q ↔ EX k is ls (.ref (mK + j) :: st) h Q := EX_n (by
  show (if j < 1000 then m_n ls (.ref (mK + j) :: st) h else none) = _
  rw [if_pos hj]
  rfl)
theorem x_sl {j idx pl : Nat} (hj : j < 1000) (hw : 0 < (P_txt j).length) : EX k ((pc, I_sl idx pl) :: is) ls (.ref (mK + j) :: st) h Q ↔ st.length ≤ 4 ∧ EX k is ls (vI ((P_txt j).length : Nat) :: st) h Q := by
  have hm : m_step P_tsw P_txt P_mcl k_dfl (I_sl idx pl) ls (.ref (mK + j) :: st) h = if mK ≤ mK + j ∧ mK + j < mK + 1000 ∧ st.length ≤ 4 ∧ 0 < (P_txt (mK + j - mK)).length then m_n ls (.int (Int32.ofNat (P_txt (mK + j - mK)).length) :: st) h else none := rfl
  rw [Nat.add_sub_cancel_left] at hm
  by_cases hl : st.length ≤ 4
  · rw [and_iff_right hl]
    refine EX_n ?_
    rw [hm, if_pos ⟨by omega, by omega, hl, hw⟩, vI, Int32.ofInt_eq_ofNat]
    rfl
  · refine ⟨fun h1 => absurd h1 (EX_s ?_), fun h1 => absurd h1.1 hl⟩
    rw [hm, if_neg (fun h => hl h.2.2.1)]
theorem x_sc {j idx pl : Nat} {i : Int} (hj : j < 1000) : EX k ((pc, I_sc idx pl) :: is) ls (vI i :: .ref (mK + j) :: st) h Q ↔ (st.length ≤ 4 ∧ 0 ≤ wz i ∧ wz i < (P_txt j).length) ∧ EX k is ls (vI ((P_txt j).getD (wz i).toNat 0).toInt :: st) h Q := by
  have hm : m_step P_tsw P_txt P_mcl k_dfl (I_sc idx pl) ls (vI i :: .ref (mK + j) :: st) h = if mK ≤ mK + j ∧ mK + j < mK + 1000 ∧ st.length ≤ 4 ∧ m_in (Int32.ofInt i) (P_txt (mK + j - mK)).length = true then m_n ls (.int ((P_txt (mK + j - mK)).getD (Int32.ofInt i).toNatClampNeg 0) :: st) h else none := rfl
  rw [Nat.add_sub_cancel_left] at hm
  by_cases hl : st.length ≤ 4 ∧ 0 ≤ wz i ∧ wz i < (P_txt j).length
  · rw [and_iff_right hl]
    refine EX_n ?_
    have hat := m_at hl.2.1
    rw [hm, if_pos ⟨by omega, by omega, hl.1, m_inz.mpr hl.2⟩, vI_ti, show (wz i).toNat = (Int32.ofInt i).toNatClampNeg by omega]
    rfl
  · refine ⟨fun h1 => absurd h1 (EX_s ?_), fun h1 => absurd h1.1 hl⟩
    rw [hm, if_neg (fun h => hl ⟨h.2.2.1, m_inz.mp h.2.2.2⟩)]
theorem wal_not {w : List Int32} {q : Int} {j : Nat} (hj : ¬ S 1 (q + j) = (w.getD j 0).toInt) : ∀ m : Nat, j < m → wal S q w m = false := by
  intro m
  induction m with
  | zero => intro h; omega
  | succ m ih =>
    intro h
    simp only [wal]
    by_cases e : j = m
    · subst e; simp only [hj, decide_false, Bool.and_false]
    · rw [ih (by omega)]; rfl
theorem C71 {j : Nat} {q e : Int} (hC : RC S M) (h0 : 0 ≤ q) (h1 : q ≤ e) (h2 : e ≤ 600) (hj : j < 1000) (hw : 0 < (P_txt j).length) (hw2 : (P_txt j).length < 100) : CL 71 [.ref 2, .ref (mK + j)] (mkh X s dh dl t (txm M e q)) Q ↔ Q (rI (bi (isW S q e (P_txt j)))) (mkh X s dh dl t (txm M e q)) := by
  have sl := fun (k pc idx pl : Nat) (is : List (Nat × MI)) (ls st : List Value) (h : MHp) (Q : MOut → MHp → Prop) => x_sl (k := k) (pc := pc) (idx := idx) (pl := pl) (is := is) (ls := ls) (st := st) (h := h) (Q := Q) hj hw
  have sc := fun (k pc idx pl : Nat) (is : List (Nat × MI)) (ls st : List Value) (h : MHp) (Q : MOut → MHp → Prop) (i : Int) => x_sc (k := k) (pc := pc) (idx := idx) (pl := pl) (is := is) (ls := ls) (st := st) (h := h) (Q := Q) (i := i) hj
  by_cases c1 : e - q = (P_txt j).length
  · have key : wal S q (P_txt j) 0 = true → (EX 71 (sx 71 20) [.ref 2, .ref (mK + j), vI ((0 : Nat) : Int)] [] (mkh X s dh dl t (txm M e q)) Q ↔ Q (rI (bi (isW S q e (P_txt j)))) (mkh X s dh dl t (txm M e q))) := by
      refine lp (n := (P_txt j).length) (fun i => wal S q (P_txt j) i = true → (EX 71 (sx 71 20) [.ref 2, .ref (mK + j), vI (i : Int)] [] (mkh X s dh dl t (txm M e q)) Q ↔ _)) ?_ ?_
      · intro hwl
        have hiw : isW S q e (P_txt j) = true := by unfold isW; rw [hwl]; simp [c1]
        rw [hiw, s_71_20]
        simp (disch := omega) only [↓x_al_0, ↓gi_2_2, ↓gi_2_3, ↓x_isub, ↓x_al_1, ↓x_eq, ↓x_c, ↓x_irz, ↓x_is_2, ↓x_il_2, ↓x_ge, ↓gr_2_0, ↓x_iadd, ↓x_inc_2, ↓x_go, ↓ld_1, ↓n_71, ↓s_71_0, ↓s_71_18, ↓s_71_49, ↓s_71_55, ↓pv_i, ↓pv_r, ↓pv_0, ↓pv_l, wz_pk, wz_ti, wz_wz, vI_wz, wz_id, wz_0, List.length_cons, List.length_nil, ↓reduceIte, true_and, and_true, Int.reduceLE, Int.reduceLT, Int.reduceEq, not_true_eq_false, not_false_eq_true, false_or, or_false, true_or, or_true, ite_not, Int.reduceNeg, Int32.reduceToInt, Nat.reduceAdd, Nat.reduceLeDiff, Nat.reduceLT, Nat.reduceEqDiff, Int.reduceAdd, Int.reduceSub, Int.reduceMul, Nat.zero_le, pk_po_ne, pk_po_eq, pk_po_ix, rI, ne_eq, ↓sl, Int.le_refl, if_true]
        rfl
      · intro i hi ih hwl
        have e1 : ¬ ((P_txt j).length : Int) ≤ i := by omega
        have e2 : (i : Int) < (P_txt j).length := by omega
        have e3 : (0 : Int) ≤ i := by omega
        have e4 := hC.at 1 rfl (q + i)
        have e5 := hC.wzz 1 rfl (q + i)
        have e6 : q + (i : Int) < 600 := by omega
        have e7 : 0 ≤ q + (i : Int) := by omega
        rw [s_71_20]
        by_cases c2 : S 1 (q + i) = ((P_txt j).getD i 0).toInt
        · have ih2 := ih (by simp only [wal, hwl, c2]; simp)
          simp (disch := omega) only [↓x_al_0, ↓gi_2_2, ↓gi_2_3, ↓x_isub, ↓x_al_1, ↓x_eq, ↓x_c, ↓x_irz, ↓x_is_2, ↓x_il_2, ↓x_ge, ↓gr_2_0, ↓x_iadd, ↓x_inc_2, ↓x_go, ↓ld_1, ↓n_71, ↓s_71_0, ↓s_71_18, ↓s_71_49, ↓s_71_55, ↓pv_i, ↓pv_r, ↓pv_0, ↓pv_l, wz_pk, wz_ti, wz_wz, vI_wz, wz_id, wz_0, List.length_cons, List.length_nil, ↓reduceIte, true_and, and_true, Int.reduceLE, Int.reduceLT, Int.reduceEq, not_true_eq_false, not_false_eq_true, false_or, or_false, true_or, or_true, ite_not, Int.reduceNeg, Int32.reduceToInt, Nat.reduceAdd, Nat.reduceLeDiff, Nat.reduceLT, Nat.reduceEqDiff, Int.reduceAdd, Int.reduceSub, Int.reduceMul, Nat.zero_le, pk_po_ne, pk_po_eq, pk_po_ix, rI, ne_eq, ↓sl, ↓sc, e1, e2, e3, if_false, tx_3, tx_o, ↓ld_1, e4, e5, e6, e7, Int.toNat_natCast, c2, if_true]
          exact ih2
        · have hiw : isW S q e (P_txt j) = false := by unfold isW; rw [wal_not c2 _ hi]; simp
          rw [hiw]
          simp (disch := omega) only [↓x_al_0, ↓gi_2_2, ↓gi_2_3, ↓x_isub, ↓x_al_1, ↓x_eq, ↓x_c, ↓x_irz, ↓x_is_2, ↓x_il_2, ↓x_ge, ↓gr_2_0, ↓x_iadd, ↓x_inc_2, ↓x_go, ↓ld_1, ↓n_71, ↓s_71_0, ↓s_71_18, ↓s_71_49, ↓s_71_55, ↓pv_i, ↓pv_r, ↓pv_0, ↓pv_l, wz_pk, wz_ti, wz_wz, vI_wz, wz_id, wz_0, List.length_cons, List.length_nil, ↓reduceIte, true_and, and_true, Int.reduceLE, Int.reduceLT, Int.reduceEq, not_true_eq_false, not_false_eq_true, false_or, or_false, true_or, or_true, ite_not, Int.reduceNeg, Int32.reduceToInt, Nat.reduceAdd, Nat.reduceLeDiff, Nat.reduceLT, Nat.reduceEqDiff, Int.reduceAdd, Int.reduceSub, Int.reduceMul, Nat.zero_le, pk_po_ne, pk_po_eq, pk_po_ix, rI, ne_eq, ↓sl, ↓sc, e1, e2, e3, if_false, tx_3, tx_o, ↓ld_1, e4, e5, e6, e7, Int.toNat_natCast, c2]
          rfl
    have key := key rfl
    simp (disch := omega) only [↓x_al_0, ↓gi_2_2, ↓gi_2_3, ↓x_isub, ↓x_al_1, ↓x_eq, ↓x_c, ↓x_irz, ↓x_is_2, ↓x_il_2, ↓x_ge, ↓gr_2_0, ↓x_iadd, ↓x_inc_2, ↓x_go, ↓ld_1, ↓n_71, ↓s_71_0, ↓s_71_18, ↓s_71_49, ↓s_71_55, ↓pv_i, ↓pv_r, ↓pv_0, ↓pv_l, wz_pk, wz_ti, wz_wz, vI_wz, wz_id, wz_0, List.length_cons, List.length_nil, ↓reduceIte, true_and, and_true, Int.reduceLE, Int.reduceLT, Int.reduceEq, not_true_eq_false, not_false_eq_true, false_or, or_false, true_or, or_true, ite_not, Int.reduceNeg, Int32.reduceToInt, Nat.reduceAdd, Nat.reduceLeDiff, Nat.reduceLT, Nat.reduceEqDiff, Int.reduceAdd, Int.reduceSub, Int.reduceMul, Nat.zero_le, pk_po_ne, pk_po_eq, pk_po_ix, rI, ne_eq, ↓sl, tx_2, tx_3, c1, if_true]
    exact key
  · have hiw : isW S q e (P_txt j) = false := by unfold isW; simp [c1]
    rw [hiw]
    simp (disch := omega) only [↓x_al_0, ↓gi_2_2, ↓gi_2_3, ↓x_isub, ↓x_al_1, ↓x_eq, ↓x_c, ↓x_irz, ↓x_is_2, ↓x_il_2, ↓x_ge, ↓gr_2_0, ↓x_iadd, ↓x_inc_2, ↓x_go, ↓ld_1, ↓n_71, ↓s_71_0, ↓s_71_18, ↓s_71_49, ↓s_71_55, ↓pv_i, ↓pv_r, ↓pv_0, ↓pv_l, wz_pk, wz_ti, wz_wz, vI_wz, wz_id, wz_0, List.length_cons, List.length_nil, ↓reduceIte, true_and, and_true, Int.reduceLE, Int.reduceLT, Int.reduceEq, not_true_eq_false, not_false_eq_true, false_or, or_false, true_or, or_true, ite_not, Int.reduceNeg, Int32.reduceToInt, Nat.reduceAdd, Nat.reduceLeDiff, Nat.reduceLT, Nat.reduceEqDiff, Int.reduceAdd, Int.reduceSub, Int.reduceMul, Nat.zero_le, pk_po_ne, pk_po_eq, pk_po_ix, rI, ne_eq, ↓sl, tx_2, tx_3, c1, if_false]
    rfl
/-! the readers' own fields, and the exchange of houses and of laws -/
theorem set_dyn {a c d : Nat} {fs : List Value} {dh' dl' : Nat} (ha : a < NCe) (hS : SH (swp s a) = (5, c, d, 0)) (h1 : fvs s dh' dl' a (M d) 0 (FT c) = fs) (h2 : ∀ b, b ≠ a → b < NCe → (SH (swp s b)).1 = 5 → ∀ m, fvs s dh' dl' b m 0 (FT (SH (swp s b)).2.1) = fvs s dh dl b m 0 (FT (SH (swp s b)).2.1)) : m_set (mkh X s dh dl t M) a (.inr (c, fs)) = mkh X s dh' dl' t M := by
  unfold m_set mkh
  refine Prod.ext rfl (Prod.ext rfl (Prod.ext rfl ?_))
  show m_upd _ a _ = _
  funext b
  unfold m_upd
  by_cases hb : b = a
  · subst hb
    rw [if_pos rfl]
    show _ = (if b = mS then _ else if b < NCe then _ else _)
    rw [if_neg (by unfold NCe at ha; unfold mS; omega), if_pos ha, hS]
    show _ = (Sum.inr (c, fvs s dh' dl' b (M d) 0 (FT c)) : MCell)
    rw [h1]
  · rw [if_neg hb]
    show (if b = mS then _ else if b < NCe then _ else _) = (if b = mS then _ else if b < NCe then _ else _)
    by_cases h3 : b = mS
    · rw [if_pos h3, if_pos h3]
    · rw [if_neg h3, if_neg h3]
      by_cases h4 : b < NCe
      · rw [if_pos h4, if_pos h4]
        have h5 := h2 b hb h4
        generalize SH (swp s b) = q at h5
        unfold cel
        split
        · rfl
        · rfl
        · rfl
        · rfl
        · rfl
        · rw [h5 rfl]
        · rfl
      · rw [if_neg h4, if_neg h4]
theorem SH_c4 : (List.range 11).all (fun i => (List.range 16).all (fun j => !(decide ((SH (16 * i + j)).1 = 5) && decide ((SH (16 * i + j)).2.1 = 4)) || decide (16 * i + j = 75))) = true := by decide +kernel
theorem SH_c6 : (List.range 11).all (fun i => (List.range 16).all (fun j => !(decide ((SH (16 * i + j)).1 = 5) && decide ((SH (16 * i + j)).2.1 = 6)) || decide (16 * i + j = 76))) = true := by decide +kernel
theorem fvs_dh {c a dh' : Nat} {m : Int → Int32} (hc : c ≠ 4) : fvs s dh' dl a m 0 (FT c) = fvs s dh dl a m 0 (FT c) := by
  match c, hc with
  | 0, _ => rfl
  | 1, _ => rfl
  | 2, _ => rfl
  | 3, _ => rfl
  | 4, h => exact absurd rfl h
  | 5, _ => rfl
  | 6, _ => rfl
  | 7, _ => rfl
  | 8, _ => rfl
  | 9, _ => rfl
  | 10, _ => rfl
  | 11, _ => rfl
  | c + 12, _ => rfl
theorem fvs_dl {c a dl' : Nat} {m : Int → Int32} (hc : c ≠ 6) : fvs s dh dl' a m 0 (FT c) = fvs s dh dl a m 0 (FT c) := by
  match c, hc with
  | 0, _ => rfl
  | 1, _ => rfl
  | 2, _ => rfl
  | 3, _ => rfl
  | 4, _ => rfl
  | 5, _ => rfl
  | 6, h => exact absurd rfl h
  | 7, _ => rfl
  | 8, _ => rfl
  | 9, _ => rfl
  | 10, _ => rfl
  | 11, _ => rfl
  | c + 12, _ => rfl
theorem pd_75_1 {b pl : Nat} : EX k ((pc, I_pd 1 4 pl) :: is) ls (.ref b :: .ref 75 :: st) (mkh X s dh dl t M) Q ↔ EX k is ls st (mkh X s b dl t M) Q := by
  have hS : SH (swp s 75) = (5, 4, 75, 0) := by rw [swp_out (by decide)]; rfl
  have hc : (mkh X s dh dl t M).2.2.2 75 = _ := mkh_cell (by decide)
  rw [hS] at hc
  refine EX_n ?_
  show (if 75 < (mkh X s dh dl t M).1 then match (mkh X s dh dl t M).2.2.2 75 with
      | .inr (c', fs) => if c' = 4 ∧ 1 < fs.length then (if (2 : Int32) = 1 ∨ (2 : Int32) = 2 then m_n ls st (m_set (mkh X s dh dl t M) 75 (.inr (c', fs.set 1 (.ref b)))) else none) else none
      | _ => none else none) = _
  rw [if_pos (show 75 < (mkh X s dh dl t M).1 from by show 75 < NCe; decide), hc]
  show (if 4 = 4 ∧ 1 < (fvs s dh dl 75 (M 75) 0 (FT 4)).length then (if (2 : Int32) = 1 ∨ (2 : Int32) = 2 then m_n ls st (m_set (mkh X s dh dl t M) 75 (.inr (4, (fvs s dh dl 75 (M 75) 0 (FT 4)).set 1 (.ref b)))) else none) else none) = _
  rw [if_pos (show 4 = 4 ∧ 1 < (fvs s dh dl 75 (M 75) 0 (FT 4)).length from ⟨rfl, by rw [fvs_len]; decide⟩), if_pos (show (2 : Int32) = 1 ∨ (2 : Int32) = 2 from Or.inr rfl), set_dyn (fs := (fvs s dh dl 75 (M 75) 0 (FT 4)).set 1 (.ref b)) (dh' := b) (dl' := dl) (by decide) hS rfl]
  · rfl
  · intro b' h1 h2 h3 m
    apply fvs_dh
    intro h4
    have h5 := swp_lt (s := s) h2
    unfold NCe at h5
    have h6 := List.all_eq_true.mp SH_c4 (swp s b' / 16) (List.mem_range.mpr (by omega))
    have h7 := List.all_eq_true.mp h6 (swp s b' % 16) (List.mem_range.mpr (by omega))
    rw [show 16 * (swp s b' / 16) + swp s b' % 16 = swp s b' by omega] at h7
    simp [h3, h4] at h7
    exact h1 (swp_inj (s := s) (by rw [h7, swp_out (by decide)]))
theorem pd_76_1 {b pl : Nat} : EX k ((pc, I_pd 1 6 pl) :: is) ls (.ref b :: .ref 76 :: st) (mkh X s dh dl t M) Q ↔ EX k is ls st (mkh X s dh b t M) Q := by
  have hS : SH (swp s 76) = (5, 6, 76, 0) := by rw [swp_out (by decide)]; rfl
  have hc : (mkh X s dh dl t M).2.2.2 76 = _ := mkh_cell (by decide)
  rw [hS] at hc
  refine EX_n ?_
  show (if 76 < (mkh X s dh dl t M).1 then match (mkh X s dh dl t M).2.2.2 76 with
      | .inr (c', fs) => if c' = 6 ∧ 1 < fs.length then (if (2 : Int32) = 1 ∨ (2 : Int32) = 2 then m_n ls st (m_set (mkh X s dh dl t M) 76 (.inr (c', fs.set 1 (.ref b)))) else none) else none
      | _ => none else none) = _
  rw [if_pos (show 76 < (mkh X s dh dl t M).1 from by show 76 < NCe; decide), hc]
  show (if 6 = 6 ∧ 1 < (fvs s dh dl 76 (M 76) 0 (FT 6)).length then (if (2 : Int32) = 1 ∨ (2 : Int32) = 2 then m_n ls st (m_set (mkh X s dh dl t M) 76 (.inr (6, (fvs s dh dl 76 (M 76) 0 (FT 6)).set 1 (.ref b)))) else none) else none) = _
  rw [if_pos (show 6 = 6 ∧ 1 < (fvs s dh dl 76 (M 76) 0 (FT 6)).length from ⟨rfl, by rw [fvs_len]; decide⟩), if_pos (show (2 : Int32) = 1 ∨ (2 : Int32) = 2 from Or.inr rfl), set_dyn (fs := (fvs s dh dl 76 (M 76) 0 (FT 6)).set 1 (.ref b)) (dh' := dh) (dl' := b) (by decide) hS rfl]
  · rfl
  · intro b' h1 h2 h3 m
    apply fvs_dl
    intro h4
    have h5 := swp_lt (s := s) h2
    unfold NCe at h5
    have h6 := List.all_eq_true.mp SH_c6 (swp s b' / 16) (List.mem_range.mpr (by omega))
    have h7 := List.all_eq_true.mp h6 (swp s b' % 16) (List.mem_range.mpr (by omega))
    rw [show 16 * (swp s b' / 16) + swp s b' % 16 = swp s b' by omega] at h7
    simp [h3, h4] at h7
    exact h1 (swp_inj (s := s) (by rw [h7, swp_out (by decide)]))
end C44w
