section C36
variable {Q : MOut → MHp → Prop} {X : Nat × (Nat → Int32)} {s : Bool × Bool} {dh dl t : Nat} {M : Mem} {S : St}
theorem K96 {d m k : Int} (hC : RC S M) (hI : crs S 78) (hd : wz d = d) (hm : wz m = m) (hk : wz k = k) (hP : PC X s dh dl t M Q (o_promise S d m k)) : CL 96 [.ref 0, vI d, vI m, vI k] (mkh X s dh dl t M) Q := by
  have h1 := c78_proms hI
  simp only [↓x_al_0, ↓x_il_1, ↓gd_0_3, ↓gi_hA_2, ↓gi_hB_2, ↓c_109, ↓x_il_2, ↓x_c, ↓c_110, ↓x_il_3, ↓gr_0_9, ↓c_4, ↓x_ir, ↓n_96, ↓s_96_0, ↓bk_v, ↓bk_n, ↓bk_r, ↓be_96, ↓pv_i, ↓pv_r, ↓pv_0, ↓pv_l, wz_pk, wz_ti, wz_wz, vI_wz, wz_id, wz_0, List.length_cons, List.length_nil, ↓reduceIte, true_and, and_true, Int.reduceLE, Int.reduceLT, Int.reduceEq, not_true_eq_false, not_false_eq_true, false_or, or_false, true_or, or_true, ite_not, Int.reduceNeg, Int32.reduceToInt, Nat.reduceAdd, Nat.reduceLeDiff, Nat.reduceLT, Nat.reduceEqDiff, Int.reduceAdd, Int.reduceSub, Int.reduceMul, Nat.zero_le, pk_po_ne, pk_po_eq, pk_po_ix, rI, ne_eq, hC.at 3 rfl, hC.wzz 3 rfl, ↓C109 hC, ↓C110 hC, hd, hm, hk]
  by_cases h2 : 0 ≤ d ∧ d < S 3 2
  · rw [if_pos h2]
    by_cases h3 : (1 ≤ m ∧ m ≤ 999) ∧ (0 ≤ k ∧ k ≤ 35)
    · rw [if_pos h3.1, if_pos h3.2]
      by_cases h4 : 8 ≤ S 78 9
      · have e := hP.ok (by rw [o_promise, if_pos h2, if_pos h3, if_pos h4]) hC FC.rfl
        simp (disch := omega) only [↓x_al_0, ↓gi_78_9, ↓x_c, ↓x_lt, ↓x_ir, ↓gr_78_10, ↓x_il_1, ↓gr_78_11, ↓x_il_2, ↓gr_78_12, ↓x_il_3, ↓x_dup_i, ↓x_dup_r, ↓x_iadd, ↓pi_78_9, ↓x_isub, ↓st_87, ↓st_88, ↓st_89, ↓n_4, ↓s_4_0, ↓s_4_11, ↓pv_i, ↓pv_r, ↓pv_0, ↓pv_l, wz_pk, wz_ti, wz_wz, vI_wz, wz_id, wz_0, List.length_cons, List.length_nil, ↓reduceIte, true_and, and_true, Int.reduceLE, Int.reduceLT, Int.reduceEq, not_true_eq_false, not_false_eq_true, false_or, or_false, true_or, or_true, ite_not, Int.reduceNeg, Int32.reduceToInt, Nat.reduceAdd, Nat.reduceLeDiff, Nat.reduceLT, Nat.reduceEqDiff, Int.reduceAdd, Int.reduceSub, Int.reduceMul, Nat.zero_le, pk_po_ne, pk_po_eq, pk_po_ix, rI, ne_eq, hC.at 78 rfl, hC.wzz 78 rfl, h4, if_true, e]
        simp only [↓x_al_0, ↓x_il_1, ↓gd_0_3, ↓gi_hA_2, ↓gi_hB_2, ↓c_109, ↓x_il_2, ↓x_c, ↓c_110, ↓x_il_3, ↓gr_0_9, ↓c_4, ↓x_ir, ↓n_96, ↓s_96_0, ↓bk_v, ↓bk_n, ↓bk_r, ↓be_96, ↓pv_i, ↓pv_r, ↓pv_0, ↓pv_l, wz_pk, wz_ti, wz_wz, vI_wz, wz_id, wz_0, List.length_cons, List.length_nil, ↓reduceIte, true_and, and_true, Int.reduceLE, Int.reduceLT, Int.reduceEq, not_true_eq_false, not_false_eq_true, false_or, or_false, true_or, or_true, ite_not, Int.reduceNeg, Int32.reduceToInt, Nat.reduceAdd, Nat.reduceLeDiff, Nat.reduceLT, Nat.reduceEqDiff, Int.reduceAdd, Int.reduceSub, Int.reduceMul, Nat.zero_le, pk_po_ne, pk_po_eq, pk_po_ix, rI, ne_eq]
        grind
      · have e := hP.ok (M' := po (po (po (po M 87 (S 78 9) d) 88 (S 78 9) m) 89 (S 78 9) k) 78 9 (S 78 9 + 1)) (by rw [o_promise, if_pos h2, if_pos h3, if_neg h4]) ((((hC.putz (by decide) hd).putz (by decide) hm).putz (by decide) hk).putz (by decide) (wz_id (by omega) (by omega))) ((((FC.rfl.pw (by decide)).pw (by decide)).pw (by decide)).pw (by decide))
        simp (disch := omega) only [↓x_al_0, ↓gi_78_9, ↓x_c, ↓x_lt, ↓x_ir, ↓gr_78_10, ↓x_il_1, ↓gr_78_11, ↓x_il_2, ↓gr_78_12, ↓x_il_3, ↓x_dup_i, ↓x_dup_r, ↓x_iadd, ↓pi_78_9, ↓x_isub, ↓st_87, ↓st_88, ↓st_89, ↓n_4, ↓s_4_0, ↓s_4_11, ↓pv_i, ↓pv_r, ↓pv_0, ↓pv_l, wz_pk, wz_ti, wz_wz, vI_wz, wz_id, wz_0, List.length_cons, List.length_nil, ↓reduceIte, true_and, and_true, Int.reduceLE, Int.reduceLT, Int.reduceEq, not_true_eq_false, not_false_eq_true, false_or, or_false, true_or, or_true, ite_not, Int.reduceNeg, Int32.reduceToInt, Nat.reduceAdd, Nat.reduceLeDiff, Nat.reduceLT, Nat.reduceEqDiff, Int.reduceAdd, Int.reduceSub, Int.reduceMul, Nat.zero_le, pk_po_ne, pk_po_eq, pk_po_ix, rI, ne_eq, hC.at 78 rfl, hC.wzz 78 rfl]
        simp (disch := omega) only [↓x_al_0, ↓x_il_1, ↓gd_0_3, ↓gi_hA_2, ↓gi_hB_2, ↓c_109, ↓x_il_2, ↓x_c, ↓c_110, ↓x_il_3, ↓gr_0_9, ↓c_4, ↓x_ir, ↓n_96, ↓s_96_0, ↓bk_v, ↓bk_n, ↓bk_r, ↓be_96, ↓pv_i, ↓pv_r, ↓pv_0, ↓pv_l, wz_pk, wz_ti, wz_wz, vI_wz, wz_id, wz_0, List.length_cons, List.length_nil, ↓reduceIte, true_and, and_true, Int.reduceLE, Int.reduceLT, Int.reduceEq, not_true_eq_false, not_false_eq_true, false_or, or_false, true_or, or_true, ite_not, Int.reduceNeg, Int32.reduceToInt, Nat.reduceAdd, Nat.reduceLeDiff, Nat.reduceLT, Nat.reduceEqDiff, Int.reduceAdd, Int.reduceSub, Int.reduceMul, Nat.zero_le, pk_po_ne, pk_po_eq, pk_po_ix, rI, ne_eq]
        grind
    · have e := hP.no 1 (by rw [o_promise, if_pos h2, if_neg h3]; rfl) hC.ref (FC.rfl.pw (by decide))
      grind
  · rw [if_neg h2]
    exact hP.no 0 (by rw [o_promise, if_neg h2]; rfl) hC.ref (FC.rfl.pw (by decide))
theorem K94 {g x m : Int} (hC : RC S M) (hH : hou S) (hI : crs S 78) (hg : wz g = g) (hx : wz x = x) (hm : wz m = m) (hP : PC X s dh dl t M Q (o_sell S g x m)) : CL 94 [.ref 0, vI g, vI x, vI m] (mkh X s dh dl t M) Q := by
  have h1 := hH.ng
  simp only [↓x_al_0, ↓x_il_1, ↓gd_0_3, ↓gi_hA_1, ↓gi_hB_1, ↓c_109, ↓x_il_2, ↓x_c, ↓c_110, ↓x_il_3, ↓gr_0_9, ↓c_6, ↓x_eq0, ↓c_9, ↓x_ir, ↓c_19_hA, ↓gr_78_6, ↓c_20_hA, ↓x_ge, ↓gr_78_5, ↓gr_hA_6, ↓gr_hB_6, ↓c_21_hA, ↓ld_83, ↓st_83, ↓ld_84, ↓st_84, ↓ld_hA_8, ↓st_hA_8, ↓ld_hB_8, ↓st_hB_8, ↓n_94, ↓s_94_0, ↓s_94_52, ↓s_94_55, ↓s_94_80, ↓s_94_94, ↓bk_v, ↓bk_n, ↓bk_r, ↓be_94, ↓pv_i, ↓pv_r, ↓pv_0, ↓pv_l, wz_pk, wz_ti, wz_wz, vI_wz, wz_id, wz_0, List.length_cons, List.length_nil, ↓reduceIte, true_and, and_true, Int.reduceLE, Int.reduceLT, Int.reduceEq, not_true_eq_false, not_false_eq_true, false_or, or_false, true_or, or_true, ite_not, Int.reduceNeg, Int32.reduceToInt, Nat.reduceAdd, Nat.reduceLeDiff, Nat.reduceLT, Nat.reduceEqDiff, Int.reduceAdd, Int.reduceSub, Int.reduceMul, Nat.zero_le, pk_po_ne, pk_po_eq, pk_po_ix, rI, ne_eq, hC.at 3 rfl, hC.wzz 3 rfl, hC.at 11 rfl, hC.wzz 11 rfl, ↓C109 hC, ↓C110 hC, ↓C6 hC hI, ↓C9 hC, ↓C19 hC, ↓C20 hC hH, hg, hx, hm]
  by_cases h2 : 0 ≤ g ∧ g < S 3 1
  · rw [if_pos h2]
    have h5 := hH.own g h2.1 h2.2
    have h6 := hH.wor g h2.1 h2.2
    by_cases h3 : (0 ≤ x ∧ x ≤ 9999) ∧ (0 ≤ m ∧ m ≤ 9999)
    · rw [if_pos h3.1, if_pos h3.2]
      have hl : 0 ≤ listedN S g ∧ listedN S g ≤ 24 := by
        have := c78_acts hI
        unfold listedN
        have a1 : ((S 78 0).toNat : Int) * 0 ≤ sm (fun i => if S 80 i = g then 1 else 0) (S 78 0).toNat := sm_ge (fun i hi => by split <;> omega)
        have a2 : sm (fun i => if S 80 i = g then 1 else 0) (S 78 0).toNat ≤ ((S 78 0).toNat : Int) * 1 := sm_le (fun i hi => by split <;> omega)
        omega
      have e0 : ∀ b : Bool, wz (bi b) = bi b := fun b => by cases b <;> rfl
      have e1 : ∀ b : Bool, (bi b = 0) = (b = false) := fun b => by cases b <;> simp [bi]
      have e2 : wz (S 12 g + 1) = S 12 g + 1 := wz_id (by omega) (by omega)
      have e3 : Int.tdiv (S 12 g + 1) 2 = (S 12 g + 1) / 2 := Int.tdiv_eq_ediv_of_nonneg (by omega)
      have e4 : wz ((S 12 g + 1) / 2) = (S 12 g + 1) / 2 := wz_id (by omega) (by omega)
      simp only [wz_id (x := listedN S g) (by omega) (by omega), e0, e1, e2, e3, e4]
      by_cases h7 : listedN S g = 0 ∨ gone S g = true
      · have e := hP.ok (by rw [o_sell, if_pos h2, if_pos h3, if_pos h7]) hC FC.rfl
        grind
      · by_cases h8 : S 28 g ≤ m
        · have e := hP.ok (by rw [o_sell, if_pos h2, if_pos h3, if_neg h7, if_pos h8]) (hC.putz (a := 84) (i := g) (x := 1) (by decide) rfl) (FC.rfl.pw (by decide))
          grind
        · by_cases h9 : x < (S 12 g + 1) / 2
          · have e := hP.ok (by rw [o_sell, if_pos h2, if_pos h3, if_neg h7, if_neg h8, if_pos h9]) hC FC.rfl
            grind
          · have hC2 := hC.putz (a := 83) (i := g) (x := x) (by decide) hx
            have e := hP.ok (by rw [o_sell, if_pos h2, if_pos h3, if_neg h7, if_neg h8, if_neg h9]) hC2 (FC.rfl.pw (by decide))
            have es : share (su S 83 g x) g (S 11 g) x = share S g (S 11 g) x := by unfold share cut su; simp
            have h7a : ¬ listedN S g = 0 := fun h => h7 (Or.inl h)
            have h7b : gone S g = false := by cases hh : gone S g <;> simp_all
            have h8a : decide (S 28 g ≤ m) = false := by simp [h8]
            have h9a : (S 12 g + 1) / 2 ≤ x := by omega
            simp only [h7a, h7b, h8a, h9, h9a, if_true, if_false, Bool.false_eq_true, Bool.true_eq_false, not_false_eq_true, not_true_eq_false]
            rw [C21 hC2 (show hou (su S 83 g x) from hH) h2 h5 h3.1, es]
            simp only [↓x_al_0, ↓x_il_1, ↓gd_0_3, ↓gi_hA_1, ↓gi_hB_1, ↓c_109, ↓x_il_2, ↓x_c, ↓c_110, ↓x_il_3, ↓gr_0_9, ↓c_6, ↓x_eq0, ↓c_9, ↓x_ir, ↓c_19_hA, ↓gr_78_6, ↓c_20_hA, ↓x_ge, ↓gr_78_5, ↓gr_hA_6, ↓gr_hB_6, ↓c_21_hA, ↓ld_83, ↓st_83, ↓ld_84, ↓st_84, ↓ld_hA_8, ↓st_hA_8, ↓ld_hB_8, ↓st_hB_8, ↓n_94, ↓s_94_0, ↓s_94_52, ↓s_94_55, ↓s_94_80, ↓s_94_94, ↓bk_v, ↓bk_n, ↓bk_r, ↓be_94, ↓pv_i, ↓pv_r, ↓pv_0, ↓pv_l, wz_pk, wz_ti, wz_wz, vI_wz, wz_id, wz_0, List.length_cons, List.length_nil, ↓reduceIte, true_and, and_true, Int.reduceLE, Int.reduceLT, Int.reduceEq, not_true_eq_false, not_false_eq_true, false_or, or_false, true_or, or_true, ite_not, Int.reduceNeg, Int32.reduceToInt, Nat.reduceAdd, Nat.reduceLeDiff, Nat.reduceLT, Nat.reduceEqDiff, Int.reduceAdd, Int.reduceSub, Int.reduceMul, Nat.zero_le, pk_po_ne, pk_po_eq, pk_po_ix, rI, ne_eq]
            grind
    · have e := hP.no 1 (by rw [o_sell, if_pos h2, if_neg h3]; rfl) hC.ref (FC.rfl.pw (by decide))
      grind
  · rw [if_neg h2]
    exact hP.no 0 (by rw [o_sell, if_neg h2]; rfl) hC.ref (FC.rfl.pw (by decide))
theorem K90 {d g m o : Int} (hC : RC S M) (hH : hou S) (hL : wfl S) (hI : crs S 78) (hd : wz d = d) (hg : wz g = g) (hm : wz m = m) (ho : wz o = o) (hP : PC X s dh dl t M Q (o_take S d g m o)) : CL 90 [.ref 0, vI d, vI g, vI m, vI o] (mkh X s dh dl t M) Q := by
  simp only [↓x_al_0, ↓x_il_1, ↓x_il_2, ↓x_il_3, ↓x_il_4, ↓c_111, ↓c_112, ↓c_114, ↓x_c, ↓x_eq, ↓x_ir, ↓gr_0_9, ↓c_7, ↓x_ne0, ↓c_9, ↓gr_78_7, ↓x_eq0, ↓c_3, ↓x_is_5, ↓x_il_5, ↓x_ne, ↓x_go, ↓ld_85, ↓n_90, ↓s_90_0, ↓s_90_29, ↓s_90_64, ↓s_90_67, ↓s_90_92, ↓s_90_94, ↓bk_v, ↓bk_n, ↓bk_r, ↓be_90, ↓pv_i, ↓pv_r, ↓pv_0, ↓pv_l, wz_pk, wz_ti, wz_wz, vI_wz, wz_id, wz_0, List.length_cons, List.length_nil, ↓reduceIte, true_and, and_true, Int.reduceLE, Int.reduceLT, Int.reduceEq, not_true_eq_false, not_false_eq_true, false_or, or_false, true_or, or_true, ite_not, Int.reduceNeg, Int32.reduceToInt, Nat.reduceAdd, Nat.reduceLeDiff, Nat.reduceLT, Nat.reduceEqDiff, Int.reduceAdd, Int.reduceSub, Int.reduceMul, Nat.zero_le, pk_po_ne, pk_po_eq, pk_po_ix, rI, ne_eq, ↓C111 hC hd hg hm ho, ↓C112 hC hI hm]
  by_cases h1 : (0 ≤ d ∧ d < S 3 2) ∧ (0 ≤ g ∧ g < S 3 1)
  · rw [if_pos h1]
    by_cases h2 : (0 ≤ m ∧ m ≤ 9999) ∧ (0 ≤ o ∧ o ≤ 2)
    · rw [if_pos h2]
      by_cases h3 : m < lastMin S
      · rw [if_pos h3]
        exact hP.no 2 (by rw [o_take, tkR, if_pos h1, if_pos h2, if_pos h3]; rfl) hC.ref (FC.rfl.pw (by decide))
      · rw [if_neg h3]
        refine C114 hC hH hL h1.1 h1.2 h2.1 h2.2 ?_
        intro M1 f1
        have hC1 := hC.fr2 (n := 68) (m := 91) rfl (by decide) rfl (by decide) f1
        have hF1 := FC.fr2 (n := 68) (m := 91) (by decide) (by decide) f1
        have hn := hH.nd
        have hng := hH.ng
        have ha := c78_acts hI
        have hb := barOf_rng (f := fct S d g m o m) hL
        have eb : wz (barred S d g m o) = barred S d g m o := wz_id (by unfold barred; omega) (by unfold barred; omega)
        have e0 : ∀ b : Bool, wz (bi b) = bi b := fun b => by cases b <;> rfl
        have e1 : ∀ b : Bool, (bi b = 0) = (b = false) := fun b => by cases b <;> simp [bi]
        have cC := hC1.at 85 rfl
        have cW := hC1.wzz 85 rfl
        have cV := hC1.wzz 78 rfl
        by_cases h4 : barred S d g m o = -1
        · simp only [↓x_al_0, ↓x_il_1, ↓x_il_2, ↓x_il_3, ↓x_il_4, ↓c_111, ↓c_112, ↓c_114, ↓x_c, ↓x_eq, ↓x_ir, ↓gr_0_9, ↓c_7, ↓x_ne0, ↓c_9, ↓gr_78_7, ↓x_eq0, ↓c_3, ↓x_is_5, ↓x_il_5, ↓x_ne, ↓x_go, ↓ld_85, ↓n_90, ↓s_90_0, ↓s_90_29, ↓s_90_64, ↓s_90_67, ↓s_90_92, ↓s_90_94, ↓bk_v, ↓bk_n, ↓bk_r, ↓be_90, ↓pv_i, ↓pv_r, ↓pv_0, ↓pv_l, wz_pk, wz_ti, wz_wz, vI_wz, wz_id, wz_0, List.length_cons, List.length_nil, ↓reduceIte, true_and, and_true, Int.reduceLE, Int.reduceLT, Int.reduceEq, not_true_eq_false, not_false_eq_true, false_or, or_false, true_or, or_true, ite_not, Int.reduceNeg, Int32.reduceToInt, Nat.reduceAdd, Nat.reduceLeDiff, Nat.reduceLT, Nat.reduceEqDiff, Int.reduceAdd, Int.reduceSub, Int.reduceMul, Nat.zero_le, pk_po_ne, pk_po_eq, pk_po_ix, rI, ne_eq, eb, h4, if_true, ↓C7 hC1 hI, ↓C9 hC1, hd, hg, e0, e1, cC, cW]
          by_cases h5 : listedFor S d g = true ∨ gone S g = true ∨ ¬ S 85 d = 0
          · have e := hP.ok (M' := M1) (by rw [o_take, tkR, if_pos h1, if_pos h2, if_neg h3, if_neg (by simp [h4]), if_pos h5]) hC1 hF1
            grind
          · have hac := hC1.at 78 rfl
            by_cases h6 : 24 ≤ S 78 0
            · have e := hP.ok (M' := M1) (by rw [o_take, tkR, if_pos h1, if_pos h2, if_neg h3, if_neg (by simp [h4]), if_neg h5, if_pos h6]) hC1 hF1
              simp only [↓x_al_0, ↓gi_78_0, ↓x_c, ↓x_lt, ↓x_ir, ↓gr_78_1, ↓x_il_1, ↓gr_78_2, ↓x_il_2, ↓gr_78_3, ↓x_il_3, ↓gr_78_4, ↓x_il_4, ↓x_dup_i, ↓x_dup_r, ↓x_iadd, ↓pi_78_0, ↓x_isub, ↓st_79, ↓st_80, ↓st_81, ↓st_82, ↓n_3, ↓s_3_0, ↓s_3_11, ↓pv_i, ↓pv_r, ↓pv_0, ↓pv_l, wz_pk, wz_ti, wz_wz, vI_wz, wz_id, wz_0, List.length_cons, List.length_nil, ↓reduceIte, true_and, and_true, Int.reduceLE, Int.reduceLT, Int.reduceEq, not_true_eq_false, not_false_eq_true, false_or, or_false, true_or, or_true, ite_not, Int.reduceNeg, Int32.reduceToInt, Nat.reduceAdd, Nat.reduceLeDiff, Nat.reduceLT, Nat.reduceEqDiff, Int.reduceAdd, Int.reduceSub, Int.reduceMul, Nat.zero_le, pk_po_ne, pk_po_eq, pk_po_ix, rI, ne_eq, hac, cV, h6, if_true]
              simp only [↓x_al_0, ↓x_il_1, ↓x_il_2, ↓x_il_3, ↓x_il_4, ↓c_111, ↓c_112, ↓c_114, ↓x_c, ↓x_eq, ↓x_ir, ↓gr_0_9, ↓c_7, ↓x_ne0, ↓c_9, ↓gr_78_7, ↓x_eq0, ↓c_3, ↓x_is_5, ↓x_il_5, ↓x_ne, ↓x_go, ↓ld_85, ↓n_90, ↓s_90_0, ↓s_90_29, ↓s_90_64, ↓s_90_67, ↓s_90_92, ↓s_90_94, ↓bk_v, ↓bk_n, ↓bk_r, ↓be_90, ↓pv_i, ↓pv_r, ↓pv_0, ↓pv_l, wz_pk, wz_ti, wz_wz, vI_wz, wz_id, wz_0, List.length_cons, List.length_nil, ↓reduceIte, true_and, and_true, Int.reduceLE, Int.reduceLT, Int.reduceEq, not_true_eq_false, not_false_eq_true, false_or, or_false, true_or, or_true, ite_not, Int.reduceNeg, Int32.reduceToInt, Nat.reduceAdd, Nat.reduceLeDiff, Nat.reduceLT, Nat.reduceEqDiff, Int.reduceAdd, Int.reduceSub, Int.reduceMul, Nat.zero_le, pk_po_ne, pk_po_eq, pk_po_ix, rI, ne_eq]
              grind
            · have e := hP.ok (M' := po (po (po (po (po M1 79 (S 78 0) d) 80 (S 78 0) g) 81 (S 78 0) m) 82 (S 78 0) o) 78 0 (S 78 0 + 1)) (by rw [o_take, tkR, if_pos h1, if_pos h2, if_neg h3, if_neg (by simp [h4]), if_neg h5, if_neg h6, addAct]) (((((hC1.putz (by decide) hd).putz (by decide) hg).putz (by decide) hm).putz (by decide) ho).putz (by decide) (wz_id (by omega) (by omega))) (((((hF1.pw (by decide)).pw (by decide)).pw (by decide)).pw (by decide)).pw (by decide))
              simp (disch := omega) only [↓x_al_0, ↓gi_78_0, ↓x_c, ↓x_lt, ↓x_ir, ↓gr_78_1, ↓x_il_1, ↓gr_78_2, ↓x_il_2, ↓gr_78_3, ↓x_il_3, ↓gr_78_4, ↓x_il_4, ↓x_dup_i, ↓x_dup_r, ↓x_iadd, ↓pi_78_0, ↓x_isub, ↓st_79, ↓st_80, ↓st_81, ↓st_82, ↓n_3, ↓s_3_0, ↓s_3_11, ↓pv_i, ↓pv_r, ↓pv_0, ↓pv_l, wz_pk, wz_ti, wz_wz, vI_wz, wz_id, wz_0, List.length_cons, List.length_nil, ↓reduceIte, true_and, and_true, Int.reduceLE, Int.reduceLT, Int.reduceEq, not_true_eq_false, not_false_eq_true, false_or, or_false, true_or, or_true, ite_not, Int.reduceNeg, Int32.reduceToInt, Nat.reduceAdd, Nat.reduceLeDiff, Nat.reduceLT, Nat.reduceEqDiff, Int.reduceAdd, Int.reduceSub, Int.reduceMul, Nat.zero_le, pk_po_ne, pk_po_eq, pk_po_ix, rI, ne_eq, hac, cV]
              simp (disch := omega) only [↓x_al_0, ↓x_il_1, ↓x_il_2, ↓x_il_3, ↓x_il_4, ↓c_111, ↓c_112, ↓c_114, ↓x_c, ↓x_eq, ↓x_ir, ↓gr_0_9, ↓c_7, ↓x_ne0, ↓c_9, ↓gr_78_7, ↓x_eq0, ↓c_3, ↓x_is_5, ↓x_il_5, ↓x_ne, ↓x_go, ↓ld_85, ↓n_90, ↓s_90_0, ↓s_90_29, ↓s_90_64, ↓s_90_67, ↓s_90_92, ↓s_90_94, ↓bk_v, ↓bk_n, ↓bk_r, ↓be_90, ↓pv_i, ↓pv_r, ↓pv_0, ↓pv_l, wz_pk, wz_ti, wz_wz, vI_wz, wz_id, wz_0, List.length_cons, List.length_nil, ↓reduceIte, true_and, and_true, Int.reduceLE, Int.reduceLT, Int.reduceEq, not_true_eq_false, not_false_eq_true, false_or, or_false, true_or, or_true, ite_not, Int.reduceNeg, Int32.reduceToInt, Nat.reduceAdd, Nat.reduceLeDiff, Nat.reduceLT, Nat.reduceEqDiff, Int.reduceAdd, Int.reduceSub, Int.reduceMul, Nat.zero_le, pk_po_ne, pk_po_eq, pk_po_ix, rI, ne_eq]
              grind
        · have e := hP.ok (M' := M1) (by rw [o_take, tkR, if_pos h1, if_pos h2, if_neg h3, if_pos h4]) hC1 hF1
          simp only [↓x_al_0, ↓x_il_1, ↓x_il_2, ↓x_il_3, ↓x_il_4, ↓c_111, ↓c_112, ↓c_114, ↓x_c, ↓x_eq, ↓x_ir, ↓gr_0_9, ↓c_7, ↓x_ne0, ↓c_9, ↓gr_78_7, ↓x_eq0, ↓c_3, ↓x_is_5, ↓x_il_5, ↓x_ne, ↓x_go, ↓ld_85, ↓n_90, ↓s_90_0, ↓s_90_29, ↓s_90_64, ↓s_90_67, ↓s_90_92, ↓s_90_94, ↓bk_v, ↓bk_n, ↓bk_r, ↓be_90, ↓pv_i, ↓pv_r, ↓pv_0, ↓pv_l, wz_pk, wz_ti, wz_wz, vI_wz, wz_id, wz_0, List.length_cons, List.length_nil, ↓reduceIte, true_and, and_true, Int.reduceLE, Int.reduceLT, Int.reduceEq, not_true_eq_false, not_false_eq_true, false_or, or_false, true_or, or_true, ite_not, Int.reduceNeg, Int32.reduceToInt, Nat.reduceAdd, Nat.reduceLeDiff, Nat.reduceLT, Nat.reduceEqDiff, Int.reduceAdd, Int.reduceSub, Int.reduceMul, Nat.zero_le, pk_po_ne, pk_po_eq, pk_po_ix, rI, ne_eq, eb, h4, if_false]
          exact e
    · rw [if_neg h2]
      exact hP.no 1 (by rw [o_take, tkR, if_pos h1, if_neg h2]; rfl) hC.ref (FC.rfl.pw (by decide))
  · rw [if_neg h1]
    exact hP.no 0 (by rw [o_take, tkR, if_neg h1]; rfl) hC.ref (FC.rfl.pw (by decide))
theorem K92 (hC : RC S M) (hH : hou S) (hL : wfl S) (hI : crs S 78) (hP : PC X s dh dl t M Q (o_wrong S)) : CL 92 [.ref 0] (mkh X s dh dl t M) Q := by
  have h1 := c78_acts hI
  have h2 := c78_ad hI
  have h3 := c78_ag hI
  have h4 := c78_am hI
  have h5 := c78_ao hI
  have key : ∀ M1, (∀ a, a ≠ 68 → a ≠ 91 → M1 a = M a) → ∀ bb, EX 92 (sx 92 4) [.ref 0, vI (wrongN S (0 : Nat)), vI ((0 : Nat) : Int), bb] [] (mkh X s dh dl t M1) Q := by
    refine lp (n := (S 78 0).toNat) (fun n => ∀ M1, (∀ a, a ≠ 68 → a ≠ 91 → M1 a = M a) → ∀ bb, EX 92 (sx 92 4) [.ref 0, vI (wrongN S n), vI n, bb] [] (mkh X s dh dl t M1) Q) ?_ ?_
    · intro M1 f1 bb
      have hC1 := hC.fr2 (n := 68) (m := 91) rfl (by decide) rfl (by decide) f1
      have e := hP.ok (M' := M1) (by rw [o_wrong]) hC1 (FC.fr2 (by decide) (by decide) f1)
      have hac := hC1.at 78 rfl
      have e1 : S 78 0 ≤ (S 78 0).toNat := by omega
      rw [s_92_4]
      simp (disch := omega) only [↓x_c, ↓x_is_1, ↓x_is_2, ↓x_il_2, ↓x_al_0, ↓gr_0_9, ↓gi_78_0, ↓x_ge, ↓gr_78_1, ↓gr_78_2, ↓gr_78_3, ↓gr_78_4, ↓c_115, ↓x_is_3, ↓x_il_3, ↓x_eq, ↓x_il_1, ↓x_ishl, ↓x_ior, ↓x_inc_2, ↓x_go, ↓x_ir, ↓ld_79, ↓ld_80, ↓ld_81, ↓ld_82, ↓n_92, ↓s_92_0, ↓s_92_67, ↓s_92_73, ↓bk_v, ↓bk_n, ↓bk_r, ↓be_92, ↓pv_i, ↓pv_r, ↓pv_0, ↓pv_l, wz_pk, wz_ti, wz_wz, vI_wz, wz_id, wz_0, List.length_cons, List.length_nil, ↓reduceIte, true_and, and_true, Int.reduceLE, Int.reduceLT, Int.reduceEq, not_true_eq_false, not_false_eq_true, false_or, or_false, true_or, or_true, ite_not, Int.reduceNeg, Int32.reduceToInt, Nat.reduceAdd, Nat.reduceLeDiff, Nat.reduceLT, Nat.reduceEqDiff, Int.reduceAdd, Int.reduceSub, Int.reduceMul, Nat.zero_le, pk_po_ne, pk_po_eq, pk_po_ix, rI, ne_eq, hac, e1, if_true, e]
    · intro n hn ih M1 f1 bb
      have hC1 := hC.fr2 (n := 68) (m := 91) rfl (by decide) rfl (by decide) f1
      have b2 := h2 n (by omega) (by omega)
      have b3 := h3 n (by omega) (by omega)
      have b4 := h4 n (by omega) (by omega)
      have b5 := h5 n (by omega) (by omega)
      have hac := hC1.at 78 rfl
      have e1 : ¬ S 78 0 ≤ n := by omega
      have e2 : (n : Int) < 24 := by omega
      have e3 : (0 : Int) ≤ n := by omega
      rw [s_92_4]
      simp (disch := omega) only [↓x_c, ↓x_is_1, ↓x_is_2, ↓x_il_2, ↓x_al_0, ↓gr_0_9, ↓gi_78_0, ↓x_ge, ↓gr_78_1, ↓gr_78_2, ↓gr_78_3, ↓gr_78_4, ↓c_115, ↓x_is_3, ↓x_il_3, ↓x_eq, ↓x_il_1, ↓x_ishl, ↓x_ior, ↓x_inc_2, ↓x_go, ↓x_ir, ↓ld_79, ↓ld_80, ↓ld_81, ↓ld_82, ↓n_92, ↓s_92_0, ↓s_92_67, ↓s_92_73, ↓bk_v, ↓bk_n, ↓bk_r, ↓be_92, ↓pv_i, ↓pv_r, ↓pv_0, ↓pv_l, wz_pk, wz_ti, wz_wz, vI_wz, wz_id, wz_0, List.length_cons, List.length_nil, ↓reduceIte, true_and, and_true, Int.reduceLE, Int.reduceLT, Int.reduceEq, not_true_eq_false, not_false_eq_true, false_or, or_false, true_or, or_true, ite_not, Int.reduceNeg, Int32.reduceToInt, Nat.reduceAdd, Nat.reduceLeDiff, Nat.reduceLT, Nat.reduceEqDiff, Int.reduceAdd, Int.reduceSub, Int.reduceMul, Nat.zero_le, pk_po_ne, pk_po_eq, pk_po_ix, rI, ne_eq, hac, e1, e2, e3, if_false, hC1.at 79 rfl, hC1.at 80 rfl, hC1.at 81 rfl, hC1.at 82 rfl]
      refine C115 hC1 hH hL b2 b3 b4 b5 ?_
      intro M2 f2
      have hb := barOf_rng (f := fct S (S 79 n) (S 80 n) (S 81 n) (S 82 n) 9999) hL
      have eb : wz (lateBar S (S 79 n) (S 80 n) (S 81 n) (S 82 n)) = lateBar S (S 79 n) (S 80 n) (S 81 n) (S 82 n) := wz_id (by unfold lateBar; omega) (by unfold lateBar; omega)
      have ih2 := ih M2 (fun a a1 a2 => by rw [f2 a a1 a2, f1 a a1 a2]) (vI (lateBar S (S 79 n) (S 80 n) (S 81 n) (S 82 n)))
      simp only [wrongN] at ih2
      clear h2 h3 h4 h5 hP ih hC hC1 hH hL hI f1 f2 hb
      by_cases hl : lateBar S (S 79 n) (S 80 n) (S 81 n) (S 82 n) = -1
      · rw [if_pos hl] at ih2
        simp (disch := omega) only [↓x_c, ↓x_is_1, ↓x_is_2, ↓x_il_2, ↓x_al_0, ↓gr_0_9, ↓gi_78_0, ↓x_ge, ↓gr_78_1, ↓gr_78_2, ↓gr_78_3, ↓gr_78_4, ↓c_115, ↓x_is_3, ↓x_il_3, ↓x_eq, ↓x_il_1, ↓x_ishl, ↓x_ior, ↓x_inc_2, ↓x_go, ↓x_ir, ↓ld_79, ↓ld_80, ↓ld_81, ↓ld_82, ↓n_92, ↓s_92_0, ↓s_92_67, ↓s_92_73, ↓bk_v, ↓bk_n, ↓bk_r, ↓be_92, ↓pv_i, ↓pv_r, ↓pv_0, ↓pv_l, wz_pk, wz_ti, wz_wz, vI_wz, wz_id, wz_0, List.length_cons, List.length_nil, ↓reduceIte, true_and, and_true, Int.reduceLE, Int.reduceLT, Int.reduceEq, not_true_eq_false, not_false_eq_true, false_or, or_false, true_or, or_true, ite_not, Int.reduceNeg, Int32.reduceToInt, Nat.reduceAdd, Nat.reduceLeDiff, Nat.reduceLT, Nat.reduceEqDiff, Int.reduceAdd, Int.reduceSub, Int.reduceMul, Nat.zero_le, pk_po_ne, pk_po_eq, pk_po_ix, rI, ne_eq, eb, hl, if_true]
        rw [hl] at ih2
        exact ih2
      · rw [if_neg hl] at ih2
        simp (disch := omega) only [↓x_c, ↓x_is_1, ↓x_is_2, ↓x_il_2, ↓x_al_0, ↓gr_0_9, ↓gi_78_0, ↓x_ge, ↓gr_78_1, ↓gr_78_2, ↓gr_78_3, ↓gr_78_4, ↓c_115, ↓x_is_3, ↓x_il_3, ↓x_eq, ↓x_il_1, ↓x_ishl, ↓x_ior, ↓x_inc_2, ↓x_go, ↓x_ir, ↓ld_79, ↓ld_80, ↓ld_81, ↓ld_82, ↓n_92, ↓s_92_0, ↓s_92_67, ↓s_92_73, ↓bk_v, ↓bk_n, ↓bk_r, ↓be_92, ↓pv_i, ↓pv_r, ↓pv_0, ↓pv_l, wz_pk, wz_ti, wz_wz, vI_wz, wz_id, wz_0, List.length_cons, List.length_nil, ↓reduceIte, true_and, and_true, Int.reduceLE, Int.reduceLT, Int.reduceEq, not_true_eq_false, not_false_eq_true, false_or, or_false, true_or, or_true, ite_not, Int.reduceNeg, Int32.reduceToInt, Nat.reduceAdd, Nat.reduceLeDiff, Nat.reduceLT, Nat.reduceEqDiff, Int.reduceAdd, Int.reduceSub, Int.reduceMul, Nat.zero_le, pk_po_ne, pk_po_eq, pk_po_ix, rI, ne_eq, eb, hl, if_false]
        exact ih2
  have key := key M (fun _ _ _ => rfl) .null
  simp only [↓x_c, ↓x_is_1, ↓x_is_2, ↓x_il_2, ↓x_al_0, ↓gr_0_9, ↓gi_78_0, ↓x_ge, ↓gr_78_1, ↓gr_78_2, ↓gr_78_3, ↓gr_78_4, ↓c_115, ↓x_is_3, ↓x_il_3, ↓x_eq, ↓x_il_1, ↓x_ishl, ↓x_ior, ↓x_inc_2, ↓x_go, ↓x_ir, ↓ld_79, ↓ld_80, ↓ld_81, ↓ld_82, ↓n_92, ↓s_92_0, ↓s_92_67, ↓s_92_73, ↓bk_v, ↓bk_n, ↓bk_r, ↓be_92, ↓pv_i, ↓pv_r, ↓pv_0, ↓pv_l, wz_pk, wz_ti, wz_wz, vI_wz, wz_id, wz_0, List.length_cons, List.length_nil, ↓reduceIte, true_and, and_true, Int.reduceLE, Int.reduceLT, Int.reduceEq, not_true_eq_false, not_false_eq_true, false_or, or_false, true_or, or_true, ite_not, Int.reduceNeg, Int32.reduceToInt, Nat.reduceAdd, Nat.reduceLeDiff, Nat.reduceLT, Nat.reduceEqDiff, Int.reduceAdd, Int.reduceSub, Int.reduceMul, Nat.zero_le, pk_po_ne, pk_po_eq, pk_po_ix, rI, ne_eq]
  exact key
end C36
