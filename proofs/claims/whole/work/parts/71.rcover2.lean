section R71
variable {Q : MOut → MHp → Prop} {X : Nat × (Nat → Int32)} {s : Bool × Bool} {dh dl t : Nat} {M : Mem} {S : St}
theorem pc_0 : pc12 0 = 0 := by decide
theorem R191 {x : Nat} {h : MHp} (hx : x < 4096) : CL 191 [vI (x : Int)] h Q ↔ Q (rI (pc12 x)) h := by
  have key : ∀ y : Nat, y < 4096 → ∀ n : Int, 0 ≤ n ∧ n ≤ 12 → n + pc12 y = pc12 x → (EX 191 (sx 191 4) [vI (x : Int), vI n, vI (y : Int)] [] h Q ↔ Q (rI (pc12 x)) h) := by
    intro y
    induction y using Nat.strongRecOn with
    | _ y ih =>
      intro hy n hn he
      rw [s_191_4]
      by_cases c : y = 0
      · subst c
        rw [pc_0] at he
        have e0 : ((0 : Nat) : Int) = 0 := rfl
        simp (disch := omega) only [↓x_c, ↓x_is_1, ↓x_il_0, ↓x_is_2, ↓x_il_2, ↓x_eq0, ↓x_inc_1, ↓x_isub, ↓x_iand, ↓x_go, ↓x_il_1, ↓x_ir, ↓n_191, ↓s_191_0, ↓s_191_20, ↓pv_i, ↓pv_r, ↓pv_0, ↓pv_l, wz_pk, wz_ti, wz_wz, vI_wz, wz_id, wz_0, List.length_cons, List.length_nil, ↓reduceIte, true_and, and_true, Int.reduceLE, Int.reduceLT, Int.reduceEq, not_true_eq_false, not_false_eq_true, false_or, or_false, true_or, or_true, ite_not, Int.reduceNeg, Int32.reduceToInt, Nat.reduceAdd, Nat.reduceLeDiff, Nat.reduceLT, Nat.reduceEqDiff, Int.reduceAdd, Int.reduceSub, Int.reduceMul, Nat.zero_le, pk_po_ne, pk_po_eq, pk_po_ix, rI, ne_eq, e0, if_true]
        rw [show n = (pc12 x : Int) by omega]
      · have h1 := all64_is tb7 hy
        simp only [c, decide_false, Bool.false_or, Bool.and_eq_true, decide_eq_true_eq] at h1
        obtain ⟨⟨h2, h3⟩, h4⟩ := h1
        have hp := pc_le x
        have ih2 := ih (iand (y : Int) ((y : Int) - 1)).toNat (by omega) (by omega) (n + 1) ⟨by omega, by omega⟩ (by omega)
        rw [show ((iand (y : Int) ((y : Int) - 1)).toNat : Int) = iand (y : Int) ((y : Int) - 1) by omega] at ih2
        have c' : ¬ (y : Int) = 0 := by omega
        simp (disch := omega) only [↓x_c, ↓x_is_1, ↓x_il_0, ↓x_is_2, ↓x_il_2, ↓x_eq0, ↓x_inc_1, ↓x_isub, ↓x_iand, ↓x_go, ↓x_il_1, ↓x_ir, ↓n_191, ↓s_191_0, ↓s_191_20, ↓pv_i, ↓pv_r, ↓pv_0, ↓pv_l, wz_pk, wz_ti, wz_wz, vI_wz, wz_id, wz_0, List.length_cons, List.length_nil, ↓reduceIte, true_and, and_true, Int.reduceLE, Int.reduceLT, Int.reduceEq, not_true_eq_false, not_false_eq_true, false_or, or_false, true_or, or_true, ite_not, Int.reduceNeg, Int32.reduceToInt, Nat.reduceAdd, Nat.reduceLeDiff, Nat.reduceLT, Nat.reduceEqDiff, Int.reduceAdd, Int.reduceSub, Int.reduceMul, Nat.zero_le, pk_po_ne, pk_po_eq, pk_po_ix, rI, ne_eq, c', if_false]
        exact ih2
  have hp := pc_le x
  have k := key x hx 0 (by omega) (by omega)
  simp only [↓x_c, ↓x_is_1, ↓x_il_0, ↓x_is_2, ↓x_il_2, ↓x_eq0, ↓x_inc_1, ↓x_isub, ↓x_iand, ↓x_go, ↓x_il_1, ↓x_ir, ↓n_191, ↓s_191_0, ↓s_191_20, ↓pv_i, ↓pv_r, ↓pv_0, ↓pv_l, wz_pk, wz_ti, wz_wz, vI_wz, wz_id, wz_0, List.length_cons, List.length_nil, ↓reduceIte, true_and, and_true, Int.reduceLE, Int.reduceLT, Int.reduceEq, not_true_eq_false, not_false_eq_true, false_or, or_false, true_or, or_true, ite_not, Int.reduceNeg, Int32.reduceToInt, Nat.reduceAdd, Nat.reduceLeDiff, Nat.reduceLT, Nat.reduceEqDiff, Int.reduceAdd, Int.reduceSub, Int.reduceMul, Nat.zero_le, pk_po_ne, pk_po_eq, pk_po_ix, rI, ne_eq]
  exact k
/-- the best so far, as the reference holds it -/
def RB (A : Int × Int × Int) (b l : Int) : Prop := b = A.1 ∧ (A.1 = -1 → A.2.1 = -1) ∧ (¬ A.1 = -1 → (0 ≤ A.1 ∧ A.1 < 4096) ∧ l = A.2.1 ∧ A.2.2 = pc12 A.1.toNat) ∧ (-600000 ≤ l ∧ l ≤ 600000)
theorem svS_rng {v : Int → Int} {G x : Nat} (hG : G ≤ 12) (hv : ∀ g : Nat, g < G → -39996 ≤ v g ∧ v g ≤ 9999) : ∀ n : Nat, n ≤ G → -479952 ≤ sm (fun j => if bt x j.toNat = 1 then v j else 0) n ∧ sm (fun j => if bt x j.toNat = 1 then v j else 0) n ≤ 119988 := by
  intro n hn
  have a1 := sm_ge (f := fun j => if bt x j.toNat = 1 then v j else 0) (b := -39996) (n := n) (fun i hi => by have := hv i (by omega); split <;> omega)
  have a2 := sm_le (f := fun j => if bt x j.toNat = 1 then v j else 0) (b := 9999) (n := n) (fun i hi => by have := hv i (by omega); split <;> omega)
  omega
theorem R192 {d m o w : Int} (hR : RR S M) (hH : hou S) (hL : wfl S) (hI : crs S 78) (hd : wz d = d) (hm : wz m = m) (ho : wz o = o) (hw : wz w = w) (hP : PR X s dh dl t M Q cB (o_cover S d m o w)) : CL 192 [.ref 142, vI d, vI m, vI o, vI w] (mkh X s dh dl t M) Q := by
  have n1 := hH.nd
  have n2 := hH.ng
  have n3 := hH.np
  have hR0 := hR.pw (a := 142) (i := 0) (x := 0) rfl
  have hF0 : FR M (po M 142 0 0) := FR.rfl.pw (by decide)
  simp (disch := omega) only [↓x_al_0, ↓x_c, ↓pi_142_0, ↓x_il_1, ↓c_167, ↓x_eq0, ↓x_il_2, ↓c_120, ↓x_il_3, ↓x_il_4, ↓x_go, ↓c_119, ↓x_ne0, ↓x_ir, ↓gr_142_16, ↓x_imul, ↓x_is_5, ↓x_is_6, ↓x_is_7, ↓x_il_7, ↓gi_142_22, ↓x_ge, ↓gr_142_45, ↓x_ne, ↓gr_142_46, ↓c_155, ↓x_il_6, ↓x_ishl, ↓x_ior, ↓x_inc_7, ↓x_iadd, ↓gr_142_44, ↓x_il_5, ↓c_165, ↓x_is_8, ↓x_is_9, ↓x_is_10, ↓x_il_10, ↓x_ixor, ↓x_iand, ↓x_is_11, ↓x_is_12, ↓x_il_12, ↓x_il_11, ↓x_ishr, ↓gr_142_15, ↓c_170, ↓x_inc_12, ↓x_lt, ↓x_il_8, ↓x_eq, ↓x_il_9, ↓x_gt, ↓c_191, ↓x_inc_10, ↓ld_150, ↓ld_151, ↓ld_162, ↓ld_163, ↓ld_164, ↓n_192, ↓s_192_0, ↓s_192_49, ↓s_192_58, ↓s_192_129, ↓s_192_135, ↓s_192_192, ↓s_192_243, ↓s_192_253, ↓s_192_296, ↓s_192_304, ↓s_192_310, ↓s_192_320, ↓s_192_330, ↓bk_v, ↓bk_n, ↓bk_r, ↓pv_i, ↓pv_r, ↓pv_0, ↓pv_l, wz_pk, wz_ti, wz_wz, vI_wz, wz_id, wz_0, List.length_cons, List.length_nil, ↓reduceIte, true_and, and_true, Int.reduceLE, Int.reduceLT, Int.reduceEq, not_true_eq_false, not_false_eq_true, false_or, or_false, true_or, or_true, ite_not, Int.reduceNeg, Int32.reduceToInt, Nat.reduceAdd, Nat.reduceLeDiff, Nat.reduceLT, Nat.reduceEqDiff, Int.reduceAdd, Int.reduceSub, Int.reduceMul, Nat.zero_le, pk_po_ne, pk_po_eq, pk_po_ix, rI, ne_eq, ↓R167 (c := 1) hR0 hH hd th0 rfl (by decide), ↓R120, hm, ho, hw, bi_wz, bi_0, decide_eq_false_iff_not, ↓R119v (M := po M 142 0 0) (c := 2) (k := 1) th0 rfl (by decide) (by decide), mrg]
  (try simp (disch := omega) only [↓x_al_0, ↓x_c, ↓pi_142_0, ↓x_il_1, ↓c_167, ↓x_eq0, ↓x_il_2, ↓c_120, ↓x_il_3, ↓x_il_4, ↓x_go, ↓c_119, ↓x_ne0, ↓x_ir, ↓gr_142_16, ↓x_imul, ↓x_is_5, ↓x_is_6, ↓x_is_7, ↓x_il_7, ↓gi_142_22, ↓x_ge, ↓gr_142_45, ↓x_ne, ↓gr_142_46, ↓c_155, ↓x_il_6, ↓x_ishl, ↓x_ior, ↓x_inc_7, ↓x_iadd, ↓gr_142_44, ↓x_il_5, ↓c_165, ↓x_is_8, ↓x_is_9, ↓x_is_10, ↓x_il_10, ↓x_ixor, ↓x_iand, ↓x_is_11, ↓x_is_12, ↓x_il_12, ↓x_il_11, ↓x_ishr, ↓gr_142_15, ↓c_170, ↓x_inc_12, ↓x_lt, ↓x_il_8, ↓x_eq, ↓x_il_9, ↓x_gt, ↓c_191, ↓x_inc_10, ↓ld_150, ↓ld_151, ↓ld_162, ↓ld_163, ↓ld_164, ↓n_192, ↓s_192_0, ↓s_192_49, ↓s_192_50, ↓s_192_58, ↓s_192_129, ↓s_192_135, ↓s_192_192, ↓s_192_243, ↓s_192_253, ↓s_192_296, ↓s_192_304, ↓s_192_310, ↓s_192_320, ↓s_192_330, ↓bk_v, ↓bk_n, ↓bk_r, ↓pv_i, ↓pv_r, ↓pv_0, ↓pv_l, wz_pk, wz_ti, wz_wz, vI_wz, wz_id, wz_0, List.length_cons, List.length_nil, ↓reduceIte, true_and, and_true, Int.reduceLE, Int.reduceLT, Int.reduceEq, not_true_eq_false, not_false_eq_true, false_or, or_false, true_or, or_true, ite_not, Int.reduceNeg, Int32.reduceToInt, Nat.reduceAdd, Nat.reduceLeDiff, Nat.reduceLT, Nat.reduceEqDiff, Int.reduceAdd, Int.reduceSub, Int.reduceMul, Nat.zero_le, pk_po_ne, pk_po_eq, pk_po_ix, rI, ne_eq, ↓R167 (c := 1) hR0 hH hd th0 rfl (by decide), ↓R120, hm, ho, hw, bi_wz, bi_0, decide_eq_false_iff_not, ↓R119v (M := po M 142 0 0) (c := 2) (k := 1) th0 rfl (by decide) (by decide), mrg])
  (try simp (disch := omega) only [↓x_al_0, ↓x_c, ↓pi_142_0, ↓x_il_1, ↓c_167, ↓x_eq0, ↓x_il_2, ↓c_120, ↓x_il_3, ↓x_il_4, ↓x_go, ↓c_119, ↓x_ne0, ↓x_ir, ↓gr_142_16, ↓x_imul, ↓x_is_5, ↓x_is_6, ↓x_is_7, ↓x_il_7, ↓gi_142_22, ↓x_ge, ↓gr_142_45, ↓x_ne, ↓gr_142_46, ↓c_155, ↓x_il_6, ↓x_ishl, ↓x_ior, ↓x_inc_7, ↓x_iadd, ↓gr_142_44, ↓x_il_5, ↓c_165, ↓x_is_8, ↓x_is_9, ↓x_is_10, ↓x_il_10, ↓x_ixor, ↓x_iand, ↓x_is_11, ↓x_is_12, ↓x_il_12, ↓x_il_11, ↓x_ishr, ↓gr_142_15, ↓c_170, ↓x_inc_12, ↓x_lt, ↓x_il_8, ↓x_eq, ↓x_il_9, ↓x_gt, ↓c_191, ↓x_inc_10, ↓ld_150, ↓ld_151, ↓ld_162, ↓ld_163, ↓ld_164, ↓n_192, ↓s_192_0, ↓s_192_49, ↓s_192_50, ↓s_192_58, ↓s_192_129, ↓s_192_135, ↓s_192_192, ↓s_192_243, ↓s_192_244, ↓s_192_253, ↓s_192_296, ↓s_192_304, ↓s_192_310, ↓s_192_320, ↓s_192_330, ↓bk_v, ↓bk_n, ↓bk_r, ↓pv_i, ↓pv_r, ↓pv_0, ↓pv_l, wz_pk, wz_ti, wz_wz, vI_wz, wz_id, wz_0, List.length_cons, List.length_nil, ↓reduceIte, true_and, and_true, Int.reduceLE, Int.reduceLT, Int.reduceEq, not_true_eq_false, not_false_eq_true, false_or, or_false, true_or, or_true, ite_not, Int.reduceNeg, Int32.reduceToInt, Nat.reduceAdd, Nat.reduceLeDiff, Nat.reduceLT, Nat.reduceEqDiff, Int.reduceAdd, Int.reduceSub, Int.reduceMul, Nat.zero_le, pk_po_ne, pk_po_eq, pk_po_ix, rI, ne_eq, ↓R167 (c := 1) hR0 hH hd th0 rfl (by decide), ↓R120, hm, ho, hw, bi_wz, bi_0, decide_eq_false_iff_not, ↓R119v (M := po M 142 0 0) (c := 2) (k := 1) th0 rfl (by decide) (by decide), mrg])
  (try simp (disch := omega) only [↓x_al_0, ↓x_c, ↓pi_142_0, ↓x_il_1, ↓c_167, ↓x_eq0, ↓x_il_2, ↓c_120, ↓x_il_3, ↓x_il_4, ↓x_go, ↓c_119, ↓x_ne0, ↓x_ir, ↓gr_142_16, ↓x_imul, ↓x_is_5, ↓x_is_6, ↓x_is_7, ↓x_il_7, ↓gi_142_22, ↓x_ge, ↓gr_142_45, ↓x_ne, ↓gr_142_46, ↓c_155, ↓x_il_6, ↓x_ishl, ↓x_ior, ↓x_inc_7, ↓x_iadd, ↓gr_142_44, ↓x_il_5, ↓c_165, ↓x_is_8, ↓x_is_9, ↓x_is_10, ↓x_il_10, ↓x_ixor, ↓x_iand, ↓x_is_11, ↓x_is_12, ↓x_il_12, ↓x_il_11, ↓x_ishr, ↓gr_142_15, ↓c_170, ↓x_inc_12, ↓x_lt, ↓x_il_8, ↓x_eq, ↓x_il_9, ↓x_gt, ↓c_191, ↓x_inc_10, ↓ld_150, ↓ld_151, ↓ld_162, ↓ld_163, ↓ld_164, ↓n_192, ↓s_192_0, ↓s_192_49, ↓s_192_50, ↓s_192_58, ↓s_192_129, ↓s_192_135, ↓s_192_192, ↓s_192_243, ↓s_192_244, ↓s_192_253, ↓s_192_296, ↓s_192_304, ↓s_192_310, ↓s_192_320, ↓s_192_330, ↓s_192_332, ↓bk_v, ↓bk_n, ↓bk_r, ↓pv_i, ↓pv_r, ↓pv_0, ↓pv_l, wz_pk, wz_ti, wz_wz, vI_wz, wz_id, wz_0, List.length_cons, List.length_nil, ↓reduceIte, true_and, and_true, Int.reduceLE, Int.reduceLT, Int.reduceEq, not_true_eq_false, not_false_eq_true, false_or, or_false, true_or, or_true, ite_not, Int.reduceNeg, Int32.reduceToInt, Nat.reduceAdd, Nat.reduceLeDiff, Nat.reduceLT, Nat.reduceEqDiff, Int.reduceAdd, Int.reduceSub, Int.reduceMul, Nat.zero_le, pk_po_ne, pk_po_eq, pk_po_ix, rI, ne_eq, ↓R167 (c := 1) hR0 hH hd th0 rfl (by decide), ↓R120, hm, ho, hw, bi_wz, bi_0, decide_eq_false_iff_not, ↓R119v (M := po M 142 0 0) (c := 2) (k := 1) th0 rfl (by decide) (by decide), mrg])
  by_cases h : 0 ≤ d ∧ d < S 3 2
  · rw [if_pos h]
    by_cases h2 : ((0 ≤ m ∧ m ≤ 9999) ∧ (0 ≤ o ∧ o ≤ 2)) ∧ (0 ≤ w ∧ w ≤ 1)
    · simp only [h2.1.1, h2.1.2, h2.2, and_self, if_true, not_true_eq_false, if_false]
      rw [if_neg (by decide), s_192_60]
      have hdb := hH.dbt d h.1 h.2
      have ham := hH.amt d h.1 h.2
      have hst := c78_stage hI (S 29 d) hdb.1 (by omega)
      have hfe := fees_rng (k := S 86 (S 29 d)) hH (by omega)
      have hvr : ∀ g : Nat, g < (S 3 1).toNat → -39996 ≤ vCv S (S 29 d) g ∧ vCv S (S 29 d) g ≤ 9999 := fun g hg => by
        have hw1 := hH.wor g (by omega) (by omega)
        exact share_rng hH ⟨by omega, by omega⟩ hdb ⟨by omega, by omega⟩
      obtain ⟨G, hG⟩ : ∃ G : Nat, G = (S 3 1).toNat := ⟨_, rfl⟩
      have eG : (G : Int) = S 3 1 := by omega
      have G12 : G ≤ 12 := by omega
      have pG : 2 ^ G ≤ 4096 := Nat.pow_le_pow_right (n := 2) (by decide) G12
      have ml := may_lt (ok := okCv S d m o) G
      -- all the sets
      have sets : ∀ M1, SF (po M 142 0 0) M1 → ∀ b l A, RB A b l → cvA (S 30 d + feesTo S (S 86 (S 29 d))) (sbB (okCv S d m o) G) (svS (vCv S (S 29 d)) G) 0 (2 ^ G - 0) A = coverR S d m o → ∀ z1 z2, EX 192 (sx 192 168) [.ref 142, vI d, vI m, vI o, vI w, vI (S 29 d), vI (mayN (okCv S d m o) G), vI (S 30 d + feesTo S (S 86 (S 29 d))), vI b, vI l, vI ((0 : Nat) : Int), z1, z2] [] (mkh X s dh dl t M1) Q := by
        refine lp (n := 2 ^ G) (fun x => ∀ M1, SF (po M 142 0 0) M1 → ∀ b l A, RB A b l → cvA (S 30 d + feesTo S (S 86 (S 29 d))) (sbB (okCv S d m o) G) (svS (vCv S (S 29 d)) G) x (2 ^ G - x) A = coverR S d m o → ∀ z1 z2, EX 192 (sx 192 168) [.ref 142, vI d, vI m, vI o, vI w, vI (S 29 d), vI (mayN (okCv S d m o) G), vI (S 30 d + feesTo S (S 86 (S 29 d))), vI b, vI l, vI (x : Int), z1, z2] [] (mkh X s dh dl t M1) Q) ?_ ?_
        · intro M1 s1 b l A hA hc z1 z2
          have hR1 := hR0.sf s1
          have g1 := hR1.h.ng
          rw [Nat.sub_self, cvA] at hc
          have e := hP.ok (M' := M1) (by rw [o_cover, if_pos h, if_pos h2]) hR1 (hF0.trans s1.1) (by rw [s1.th]; exact th0)
          rw [← hc] at e
          have sh := shl_at G12
          have e1 : (2 : Int) ^ G ≤ ((2 ^ G : Nat) : Int) := by push_cast; exact Int.le_refl _
          obtain ⟨a1, a2, a3, a4⟩ := hA
          obtain ⟨A1, A2, A3⟩ := A
          simp only at a1 a2 a3 e
          subst a1
          have eb : wz b = b := by
            by_cases c : b = -1
            · rw [c]; rfl
            · have := a3 c; exact wz_id (by omega) (by omega)
          have pz : wz ((2 : Int) ^ G) = 2 ^ G := by
            have h8 : ((2 ^ G : Nat) : Int) = (2 : Int) ^ G := by push_cast; rfl
            rw [← h8]
            exact wz_id (by omega) (by omega)
          have pz2 : wz (((2 ^ G : Nat) : Int)) = ((2 ^ G : Nat) : Int) := wz_id (by omega) (by omega)
          rw [s_192_168]
          simp (disch := omega) only [↓x_al_0, ↓x_c, ↓pi_142_0, ↓x_il_1, ↓c_167, ↓x_eq0, ↓x_il_2, ↓c_120, ↓x_il_3, ↓x_il_4, ↓x_go, ↓c_119, ↓x_ne0, ↓x_ir, ↓gr_142_16, ↓x_imul, ↓x_is_5, ↓x_is_6, ↓x_is_7, ↓x_il_7, ↓gi_142_22, ↓x_ge, ↓gr_142_45, ↓x_ne, ↓gr_142_46, ↓c_155, ↓x_il_6, ↓x_ishl, ↓x_ior, ↓x_inc_7, ↓x_iadd, ↓gr_142_44, ↓x_il_5, ↓c_165, ↓x_is_8, ↓x_is_9, ↓x_is_10, ↓x_il_10, ↓x_ixor, ↓x_iand, ↓x_is_11, ↓x_is_12, ↓x_il_12, ↓x_il_11, ↓x_ishr, ↓gr_142_15, ↓c_170, ↓x_inc_12, ↓x_lt, ↓x_il_8, ↓x_eq, ↓x_il_9, ↓x_gt, ↓c_191, ↓x_inc_10, ↓ld_150, ↓ld_151, ↓ld_162, ↓ld_163, ↓ld_164, ↓n_192, ↓s_192_0, ↓s_192_49, ↓s_192_58, ↓s_192_60, ↓s_192_129, ↓s_192_135, ↓s_192_192, ↓s_192_243, ↓s_192_253, ↓s_192_296, ↓s_192_304, ↓s_192_310, ↓s_192_320, ↓s_192_330, ↓bk_v, ↓bk_n, ↓bk_r, ↓pv_i, ↓pv_r, ↓pv_0, ↓pv_l, wz_pk, wz_ti, wz_wz, vI_wz, wz_id, wz_0, List.length_cons, List.length_nil, ↓reduceIte, true_and, and_true, Int.reduceLE, Int.reduceLT, Int.reduceEq, not_true_eq_false, not_false_eq_true, false_or, or_false, true_or, or_true, ite_not, Int.reduceNeg, Int32.reduceToInt, Nat.reduceAdd, Nat.reduceLeDiff, Nat.reduceLT, Nat.reduceEqDiff, Int.reduceAdd, Int.reduceSub, Int.reduceMul, Nat.zero_le, pk_po_ne, pk_po_eq, pk_po_ix, rI, ne_eq, g1, ← eG, sh, pz, pz2, e1, if_true, eb, hw, mrg]
          (try simp (disch := omega) only [↓x_al_0, ↓x_c, ↓pi_142_0, ↓x_il_1, ↓c_167, ↓x_eq0, ↓x_il_2, ↓c_120, ↓x_il_3, ↓x_il_4, ↓x_go, ↓c_119, ↓x_ne0, ↓x_ir, ↓gr_142_16, ↓x_imul, ↓x_is_5, ↓x_is_6, ↓x_is_7, ↓x_il_7, ↓gi_142_22, ↓x_ge, ↓gr_142_45, ↓x_ne, ↓gr_142_46, ↓c_155, ↓x_il_6, ↓x_ishl, ↓x_ior, ↓x_inc_7, ↓x_iadd, ↓gr_142_44, ↓x_il_5, ↓c_165, ↓x_is_8, ↓x_is_9, ↓x_is_10, ↓x_il_10, ↓x_ixor, ↓x_iand, ↓x_is_11, ↓x_is_12, ↓x_il_12, ↓x_il_11, ↓x_ishr, ↓gr_142_15, ↓c_170, ↓x_inc_12, ↓x_lt, ↓x_il_8, ↓x_eq, ↓x_il_9, ↓x_gt, ↓c_191, ↓x_inc_10, ↓ld_150, ↓ld_151, ↓ld_162, ↓ld_163, ↓ld_164, ↓n_192, ↓s_192_0, ↓s_192_49, ↓s_192_50, ↓s_192_58, ↓s_192_60, ↓s_192_129, ↓s_192_135, ↓s_192_192, ↓s_192_243, ↓s_192_253, ↓s_192_296, ↓s_192_304, ↓s_192_310, ↓s_192_320, ↓s_192_330, ↓bk_v, ↓bk_n, ↓bk_r, ↓pv_i, ↓pv_r, ↓pv_0, ↓pv_l, wz_pk, wz_ti, wz_wz, vI_wz, wz_id, wz_0, List.length_cons, List.length_nil, ↓reduceIte, true_and, and_true, Int.reduceLE, Int.reduceLT, Int.reduceEq, not_true_eq_false, not_false_eq_true, false_or, or_false, true_or, or_true, ite_not, Int.reduceNeg, Int32.reduceToInt, Nat.reduceAdd, Nat.reduceLeDiff, Nat.reduceLT, Nat.reduceEqDiff, Int.reduceAdd, Int.reduceSub, Int.reduceMul, Nat.zero_le, pk_po_ne, pk_po_eq, pk_po_ix, rI, ne_eq, g1, ← eG, sh, pz, pz2, e1, if_true, eb, hw, mrg])
          (try simp (disch := omega) only [↓x_al_0, ↓x_c, ↓pi_142_0, ↓x_il_1, ↓c_167, ↓x_eq0, ↓x_il_2, ↓c_120, ↓x_il_3, ↓x_il_4, ↓x_go, ↓c_119, ↓x_ne0, ↓x_ir, ↓gr_142_16, ↓x_imul, ↓x_is_5, ↓x_is_6, ↓x_is_7, ↓x_il_7, ↓gi_142_22, ↓x_ge, ↓gr_142_45, ↓x_ne, ↓gr_142_46, ↓c_155, ↓x_il_6, ↓x_ishl, ↓x_ior, ↓x_inc_7, ↓x_iadd, ↓gr_142_44, ↓x_il_5, ↓c_165, ↓x_is_8, ↓x_is_9, ↓x_is_10, ↓x_il_10, ↓x_ixor, ↓x_iand, ↓x_is_11, ↓x_is_12, ↓x_il_12, ↓x_il_11, ↓x_ishr, ↓gr_142_15, ↓c_170, ↓x_inc_12, ↓x_lt, ↓x_il_8, ↓x_eq, ↓x_il_9, ↓x_gt, ↓c_191, ↓x_inc_10, ↓ld_150, ↓ld_151, ↓ld_162, ↓ld_163, ↓ld_164, ↓n_192, ↓s_192_0, ↓s_192_49, ↓s_192_50, ↓s_192_58, ↓s_192_60, ↓s_192_129, ↓s_192_135, ↓s_192_192, ↓s_192_243, ↓s_192_244, ↓s_192_253, ↓s_192_296, ↓s_192_304, ↓s_192_310, ↓s_192_320, ↓s_192_330, ↓bk_v, ↓bk_n, ↓bk_r, ↓pv_i, ↓pv_r, ↓pv_0, ↓pv_l, wz_pk, wz_ti, wz_wz, vI_wz, wz_id, wz_0, List.length_cons, List.length_nil, ↓reduceIte, true_and, and_true, Int.reduceLE, Int.reduceLT, Int.reduceEq, not_true_eq_false, not_false_eq_true, false_or, or_false, true_or, or_true, ite_not, Int.reduceNeg, Int32.reduceToInt, Nat.reduceAdd, Nat.reduceLeDiff, Nat.reduceLT, Nat.reduceEqDiff, Int.reduceAdd, Int.reduceSub, Int.reduceMul, Nat.zero_le, pk_po_ne, pk_po_eq, pk_po_ix, rI, ne_eq, g1, ← eG, sh, pz, pz2, e1, if_true, eb, hw, mrg])
          (try simp (disch := omega) only [↓x_al_0, ↓x_c, ↓pi_142_0, ↓x_il_1, ↓c_167, ↓x_eq0, ↓x_il_2, ↓c_120, ↓x_il_3, ↓x_il_4, ↓x_go, ↓c_119, ↓x_ne0, ↓x_ir, ↓gr_142_16, ↓x_imul, ↓x_is_5, ↓x_is_6, ↓x_is_7, ↓x_il_7, ↓gi_142_22, ↓x_ge, ↓gr_142_45, ↓x_ne, ↓gr_142_46, ↓c_155, ↓x_il_6, ↓x_ishl, ↓x_ior, ↓x_inc_7, ↓x_iadd, ↓gr_142_44, ↓x_il_5, ↓c_165, ↓x_is_8, ↓x_is_9, ↓x_is_10, ↓x_il_10, ↓x_ixor, ↓x_iand, ↓x_is_11, ↓x_is_12, ↓x_il_12, ↓x_il_11, ↓x_ishr, ↓gr_142_15, ↓c_170, ↓x_inc_12, ↓x_lt, ↓x_il_8, ↓x_eq, ↓x_il_9, ↓x_gt, ↓c_191, ↓x_inc_10, ↓ld_150, ↓ld_151, ↓ld_162, ↓ld_163, ↓ld_164, ↓n_192, ↓s_192_0, ↓s_192_49, ↓s_192_50, ↓s_192_58, ↓s_192_60, ↓s_192_129, ↓s_192_135, ↓s_192_192, ↓s_192_243, ↓s_192_244, ↓s_192_253, ↓s_192_296, ↓s_192_304, ↓s_192_310, ↓s_192_320, ↓s_192_330, ↓s_192_332, ↓bk_v, ↓bk_n, ↓bk_r, ↓pv_i, ↓pv_r, ↓pv_0, ↓pv_l, wz_pk, wz_ti, wz_wz, vI_wz, wz_id, wz_0, List.length_cons, List.length_nil, ↓reduceIte, true_and, and_true, Int.reduceLE, Int.reduceLT, Int.reduceEq, not_true_eq_false, not_false_eq_true, false_or, or_false, true_or, or_true, ite_not, Int.reduceNeg, Int32.reduceToInt, Nat.reduceAdd, Nat.reduceLeDiff, Nat.reduceLT, Nat.reduceEqDiff, Int.reduceAdd, Int.reduceSub, Int.reduceMul, Nat.zero_le, pk_po_ne, pk_po_eq, pk_po_ix, rI, ne_eq, g1, ← eG, sh, pz, pz2, e1, if_true, eb, hw, mrg])
          by_cases c : b = -1
          · have := a2 c
            subst c
            subst this
            have : w = 0 ∨ w = 1 := by omega
            rcases this with rfl | rfl <;> simpa using e
          · obtain ⟨-, rfl, -⟩ := a3 c
            have : w = 0 ∨ w = 1 := by omega
            rcases this with rfl | rfl <;> simpa [c] using e
        · intro x hx ih M1 s1 b l A hA hc z1 z2
          have hR1 := hR0.sf s1
          have g1 := hR1.h.ng
          have x12 : x < 4096 := by omega
          rw [show 2 ^ G - x = (2 ^ G - (x + 1)) + 1 by omega] at hc
          simp only [cvA] at hc
          have sh := shl_at G12
          have pz : wz ((2 : Int) ^ G) = 2 ^ G := by
            have h8 : ((2 ^ G : Nat) : Int) = (2 : Int) ^ G := by push_cast; rfl
            rw [← h8]
            exact wz_id (by omega) (by omega)
          have e1 : ¬ (2 : Int) ^ G ≤ (x : Int) := by
            have h8 : ((2 ^ G : Nat) : Int) = (2 : Int) ^ G := by push_cast; rfl
            rw [← h8]
            omega
          have su := may_sub (ok := okCv S d m o) G12 x12
          have ex1 : ((x + 1 : Nat) : Int) = (x : Int) + 1 := by omega
          rw [s_192_168]
          by_cases c : sbB (okCv S d m o) G x = true
          · rw [if_pos c] at hc
            have c0 := su.mpr c
            -- the sum of a set
            have sum : EX 192 (sx 192 198) [.ref 142, vI d, vI m, vI o, vI w, vI (S 29 d), vI (mayN (okCv S d m o) G), vI (S 30 d + feesTo S (S 86 (S 29 d))), vI b, vI l, vI (x : Int), vI (sm (fun j => if bt x j.toNat = 1 then vCv S (S 29 d) j else 0) (0 : Nat)), vI ((0 : Nat) : Int)] [] (mkh X s dh dl t M1) Q := by
              refine lp (n := G) (fun n => EX 192 (sx 192 198) [.ref 142, vI d, vI m, vI o, vI w, vI (S 29 d), vI (mayN (okCv S d m o) G), vI (S 30 d + feesTo S (S 86 (S 29 d))), vI b, vI l, vI (x : Int), vI (sm (fun j => if bt x j.toNat = 1 then vCv S (S 29 d) j else 0) n), vI (n : Int)] [] (mkh X s dh dl t M1) Q) ?_ ?_
              · have e2 : S 3 1 ≤ (G : Int) := by omega
                have sr := svS_rng (v := vCv S (S 29 d)) (x := x) G12 (fun g hg => hvr g (by omega)) G (Nat.le_refl _)
                have es : sm (fun j => if bt x j.toNat = 1 then vCv S (S 29 d) j else 0) G = svS (vCv S (S 29 d)) G x := rfl
                rw [es] at sr ⊢
                generalize svS (vCv S (S 29 d)) G x = sv at *
                have hp := pc_le x
                have ih2 := ih M1 s1
                rw [ex1] at ih2
                obtain ⟨a1, a2, a3, a4⟩ := hA
                obtain ⟨A1, A2, A3⟩ := A
                simp only at a1 a2 a3
                subst a1
                unfold cvS at hc
                simp only at hc
                rw [s_192_198]
                by_cases c1 : sv < S 30 d + feesTo S (S 86 (S 29 d))
                · rw [if_pos c1] at hc
                  have ih3 := ih2 b l (b, A2, A3) ⟨rfl, a2, a3, a4⟩ hc
                  simp (disch := omega) only [↓x_al_0, ↓x_c, ↓pi_142_0, ↓x_il_1, ↓c_167, ↓x_eq0, ↓x_il_2, ↓c_120, ↓x_il_3, ↓x_il_4, ↓x_go, ↓c_119, ↓x_ne0, ↓x_ir, ↓gr_142_16, ↓x_imul, ↓x_is_5, ↓x_is_6, ↓x_is_7, ↓x_il_7, ↓gi_142_22, ↓x_ge, ↓gr_142_45, ↓x_ne, ↓gr_142_46, ↓c_155, ↓x_il_6, ↓x_ishl, ↓x_ior, ↓x_inc_7, ↓x_iadd, ↓gr_142_44, ↓x_il_5, ↓c_165, ↓x_is_8, ↓x_is_9, ↓x_is_10, ↓x_il_10, ↓x_ixor, ↓x_iand, ↓x_is_11, ↓x_is_12, ↓x_il_12, ↓x_il_11, ↓x_ishr, ↓gr_142_15, ↓c_170, ↓x_inc_12, ↓x_lt, ↓x_il_8, ↓x_eq, ↓x_il_9, ↓x_gt, ↓c_191, ↓x_inc_10, ↓ld_150, ↓ld_151, ↓ld_162, ↓ld_163, ↓ld_164, ↓n_192, ↓s_192_0, ↓s_192_49, ↓s_192_50, ↓s_192_58, ↓s_192_60, ↓s_192_129, ↓s_192_135, ↓s_192_192, ↓s_192_243, ↓s_192_244, ↓s_192_253, ↓s_192_296, ↓s_192_304, ↓s_192_310, ↓s_192_320, ↓s_192_330, ↓s_192_332, ↓bk_v, ↓bk_n, ↓bk_r, ↓pv_i, ↓pv_r, ↓pv_0, ↓pv_l, wz_pk, wz_ti, wz_wz, vI_wz, wz_id, wz_0, List.length_cons, List.length_nil, ↓reduceIte, true_and, and_true, Int.reduceLE, Int.reduceLT, Int.reduceEq, not_true_eq_false, not_false_eq_true, false_or, or_false, true_or, or_true, ite_not, Int.reduceNeg, Int32.reduceToInt, Nat.reduceAdd, Nat.reduceLeDiff, Nat.reduceLT, Nat.reduceEqDiff, Int.reduceAdd, Int.reduceSub, Int.reduceMul, Nat.zero_le, pk_po_ne, pk_po_eq, pk_po_ix, rI, ne_eq, g1, wz_of g1, e2, if_true, c1]
                  exact ih3 _ _
                · rw [if_neg c1] at hc
                  by_cases c2 : b = -1
                  · rw [if_pos (Or.inl c2)] at hc
                    have ih3 := ih2 x sv (x, sv, pc12 x) ⟨rfl, fun h9 => by simp only at h9; omega, fun _ => ⟨⟨by simp only; omega, by simp only; omega⟩, rfl, by simp only [Int.toNat_natCast]⟩, by omega⟩ hc
                    subst c2
                    simp (disch := omega) only [↓x_al_0, ↓x_c, ↓pi_142_0, ↓x_il_1, ↓c_167, ↓x_eq0, ↓x_il_2, ↓c_120, ↓x_il_3, ↓x_il_4, ↓x_go, ↓c_119, ↓x_ne0, ↓x_ir, ↓gr_142_16, ↓x_imul, ↓x_is_5, ↓x_is_6, ↓x_is_7, ↓x_il_7, ↓gi_142_22, ↓x_ge, ↓gr_142_45, ↓x_ne, ↓gr_142_46, ↓c_155, ↓x_il_6, ↓x_ishl, ↓x_ior, ↓x_inc_7, ↓x_iadd, ↓gr_142_44, ↓x_il_5, ↓c_165, ↓x_is_8, ↓x_is_9, ↓x_is_10, ↓x_il_10, ↓x_ixor, ↓x_iand, ↓x_is_11, ↓x_is_12, ↓x_il_12, ↓x_il_11, ↓x_ishr, ↓gr_142_15, ↓c_170, ↓x_inc_12, ↓x_lt, ↓x_il_8, ↓x_eq, ↓x_il_9, ↓x_gt, ↓c_191, ↓x_inc_10, ↓ld_150, ↓ld_151, ↓ld_162, ↓ld_163, ↓ld_164, ↓n_192, ↓s_192_0, ↓s_192_49, ↓s_192_50, ↓s_192_58, ↓s_192_60, ↓s_192_129, ↓s_192_135, ↓s_192_192, ↓s_192_243, ↓s_192_244, ↓s_192_253, ↓s_192_296, ↓s_192_304, ↓s_192_310, ↓s_192_320, ↓s_192_330, ↓s_192_332, ↓bk_v, ↓bk_n, ↓bk_r, ↓pv_i, ↓pv_r, ↓pv_0, ↓pv_l, wz_pk, wz_ti, wz_wz, vI_wz, wz_id, wz_0, List.length_cons, List.length_nil, ↓reduceIte, true_and, and_true, Int.reduceLE, Int.reduceLT, Int.reduceEq, not_true_eq_false, not_false_eq_true, false_or, or_false, true_or, or_true, ite_not, Int.reduceNeg, Int32.reduceToInt, Nat.reduceAdd, Nat.reduceLeDiff, Nat.reduceLT, Nat.reduceEqDiff, Int.reduceAdd, Int.reduceSub, Int.reduceMul, Nat.zero_le, pk_po_ne, pk_po_eq, pk_po_ix, rI, ne_eq, g1, wz_of g1, e2, if_true, c1, if_false]
                    exact ih3 _ _
                  · obtain ⟨a5, a6, a7⟩ := a3 c2
                    subst a6
                    have eb : wz b = b := wz_id (by omega) (by omega)
                    by_cases c3 : sv < l
                    · rw [if_pos (Or.inr (Or.inl c3))] at hc
                      have ih3 := ih2 x sv (x, sv, pc12 x) ⟨rfl, fun h9 => by simp only at h9; omega, fun _ => ⟨⟨by simp only; omega, by simp only; omega⟩, rfl, by simp only [Int.toNat_natCast]⟩, by omega⟩ hc
                      have c4 : ¬ l < sv := by omega
                      have c5 : ¬ sv = l := by omega
                      simp (disch := omega) only [↓x_al_0, ↓x_c, ↓pi_142_0, ↓x_il_1, ↓c_167, ↓x_eq0, ↓x_il_2, ↓c_120, ↓x_il_3, ↓x_il_4, ↓x_go, ↓c_119, ↓x_ne0, ↓x_ir, ↓gr_142_16, ↓x_imul, ↓x_is_5, ↓x_is_6, ↓x_is_7, ↓x_il_7, ↓gi_142_22, ↓x_ge, ↓gr_142_45, ↓x_ne, ↓gr_142_46, ↓c_155, ↓x_il_6, ↓x_ishl, ↓x_ior, ↓x_inc_7, ↓x_iadd, ↓gr_142_44, ↓x_il_5, ↓c_165, ↓x_is_8, ↓x_is_9, ↓x_is_10, ↓x_il_10, ↓x_ixor, ↓x_iand, ↓x_is_11, ↓x_is_12, ↓x_il_12, ↓x_il_11, ↓x_ishr, ↓gr_142_15, ↓c_170, ↓x_inc_12, ↓x_lt, ↓x_il_8, ↓x_eq, ↓x_il_9, ↓x_gt, ↓c_191, ↓x_inc_10, ↓ld_150, ↓ld_151, ↓ld_162, ↓ld_163, ↓ld_164, ↓n_192, ↓s_192_0, ↓s_192_49, ↓s_192_50, ↓s_192_58, ↓s_192_60, ↓s_192_129, ↓s_192_135, ↓s_192_192, ↓s_192_243, ↓s_192_244, ↓s_192_253, ↓s_192_296, ↓s_192_304, ↓s_192_310, ↓s_192_320, ↓s_192_330, ↓s_192_332, ↓bk_v, ↓bk_n, ↓bk_r, ↓pv_i, ↓pv_r, ↓pv_0, ↓pv_l, wz_pk, wz_ti, wz_wz, vI_wz, wz_id, wz_0, List.length_cons, List.length_nil, ↓reduceIte, true_and, and_true, Int.reduceLE, Int.reduceLT, Int.reduceEq, not_true_eq_false, not_false_eq_true, false_or, or_false, true_or, or_true, ite_not, Int.reduceNeg, Int32.reduceToInt, Nat.reduceAdd, Nat.reduceLeDiff, Nat.reduceLT, Nat.reduceEqDiff, Int.reduceAdd, Int.reduceSub, Int.reduceMul, Nat.zero_le, pk_po_ne, pk_po_eq, pk_po_ix, rI, ne_eq, g1, wz_of g1, e2, if_true, c1, if_false, c2, c3, c4, c5, eb]
                      exact ih3 _ _
                    · by_cases c4 : sv = l
                      · have c5 : ¬ l < sv := by omega
                        have hp2 := pc_le b.toNat
                        have r1 := fun (q : MOut → MHp → Prop) (hh : MHp) => R191 (Q := q) (h := hh) x12
                        have r2 := fun (q : MOut → MHp → Prop) (hh : MHp) => R191 (Q := q) (h := hh) (x := b.toNat) (by omega)
                        rw [show (b.toNat : Int) = b by omega] at r2
                        simp (disch := omega) only [↓x_al_0, ↓x_c, ↓pi_142_0, ↓x_il_1, ↓c_167, ↓x_eq0, ↓x_il_2, ↓c_120, ↓x_il_3, ↓x_il_4, ↓x_go, ↓c_119, ↓x_ne0, ↓x_ir, ↓gr_142_16, ↓x_imul, ↓x_is_5, ↓x_is_6, ↓x_is_7, ↓x_il_7, ↓gi_142_22, ↓x_ge, ↓gr_142_45, ↓x_ne, ↓gr_142_46, ↓c_155, ↓x_il_6, ↓x_ishl, ↓x_ior, ↓x_inc_7, ↓x_iadd, ↓gr_142_44, ↓x_il_5, ↓c_165, ↓x_is_8, ↓x_is_9, ↓x_is_10, ↓x_il_10, ↓x_ixor, ↓x_iand, ↓x_is_11, ↓x_is_12, ↓x_il_12, ↓x_il_11, ↓x_ishr, ↓gr_142_15, ↓c_170, ↓x_inc_12, ↓x_lt, ↓x_il_8, ↓x_eq, ↓x_il_9, ↓x_gt, ↓c_191, ↓x_inc_10, ↓ld_150, ↓ld_151, ↓ld_162, ↓ld_163, ↓ld_164, ↓n_192, ↓s_192_0, ↓s_192_49, ↓s_192_50, ↓s_192_58, ↓s_192_60, ↓s_192_129, ↓s_192_135, ↓s_192_192, ↓s_192_243, ↓s_192_244, ↓s_192_253, ↓s_192_296, ↓s_192_304, ↓s_192_310, ↓s_192_320, ↓s_192_330, ↓s_192_332, ↓bk_v, ↓bk_n, ↓bk_r, ↓pv_i, ↓pv_r, ↓pv_0, ↓pv_l, wz_pk, wz_ti, wz_wz, vI_wz, wz_id, wz_0, List.length_cons, List.length_nil, ↓reduceIte, true_and, and_true, Int.reduceLE, Int.reduceLT, Int.reduceEq, not_true_eq_false, not_false_eq_true, false_or, or_false, true_or, or_true, ite_not, Int.reduceNeg, Int32.reduceToInt, Nat.reduceAdd, Nat.reduceLeDiff, Nat.reduceLT, Nat.reduceEqDiff, Int.reduceAdd, Int.reduceSub, Int.reduceMul, Nat.zero_le, pk_po_ne, pk_po_eq, pk_po_ix, rI, ne_eq, g1, wz_of g1, e2, if_true, c1, if_false, c2, c4, c5, eb, ↓r1, ↓r2]
                        by_cases c6 : (pc12 x : Int) < A3
                        · rw [if_pos (Or.inr (Or.inr ⟨c4, c6⟩))] at hc
                          have ih3 := ih2 x sv (x, sv, pc12 x) ⟨rfl, fun h9 => by simp only at h9; omega, fun _ => ⟨⟨by simp only; omega, by simp only; omega⟩, rfl, by simp only [Int.toNat_natCast]⟩, by omega⟩ hc
                          rw [a7] at c6
                          simp only [c6, Int.lt_irrefl, if_true, if_false]
                          rw [← c4, if_neg c1]
                          exact ih3 _ _
                        · rw [if_neg (by omega)] at hc
                          have ih3 := ih2 b l (b, l, A3) ⟨rfl, a2, a3, a4⟩ hc
                          rw [a7] at c6
                          simp only [c6, Int.lt_irrefl, if_true, if_false]
                          rw [← c4] at ih3 ⊢
                          rw [if_neg c1]
                          exact ih3 _ _
                      · rw [if_neg (by omega)] at hc
                        have ih3 := ih2 b l (b, l, A3) ⟨rfl, a2, a3, a4⟩ hc
                        have c5 : l < sv := by omega
                        simp (disch := omega) only [↓x_al_0, ↓x_c, ↓pi_142_0, ↓x_il_1, ↓c_167, ↓x_eq0, ↓x_il_2, ↓c_120, ↓x_il_3, ↓x_il_4, ↓x_go, ↓c_119, ↓x_ne0, ↓x_ir, ↓gr_142_16, ↓x_imul, ↓x_is_5, ↓x_is_6, ↓x_is_7, ↓x_il_7, ↓gi_142_22, ↓x_ge, ↓gr_142_45, ↓x_ne, ↓gr_142_46, ↓c_155, ↓x_il_6, ↓x_ishl, ↓x_ior, ↓x_inc_7, ↓x_iadd, ↓gr_142_44, ↓x_il_5, ↓c_165, ↓x_is_8, ↓x_is_9, ↓x_is_10, ↓x_il_10, ↓x_ixor, ↓x_iand, ↓x_is_11, ↓x_is_12, ↓x_il_12, ↓x_il_11, ↓x_ishr, ↓gr_142_15, ↓c_170, ↓x_inc_12, ↓x_lt, ↓x_il_8, ↓x_eq, ↓x_il_9, ↓x_gt, ↓c_191, ↓x_inc_10, ↓ld_150, ↓ld_151, ↓ld_162, ↓ld_163, ↓ld_164, ↓n_192, ↓s_192_0, ↓s_192_49, ↓s_192_50, ↓s_192_58, ↓s_192_60, ↓s_192_129, ↓s_192_135, ↓s_192_192, ↓s_192_243, ↓s_192_244, ↓s_192_253, ↓s_192_296, ↓s_192_304, ↓s_192_310, ↓s_192_320, ↓s_192_330, ↓s_192_332, ↓bk_v, ↓bk_n, ↓bk_r, ↓pv_i, ↓pv_r, ↓pv_0, ↓pv_l, wz_pk, wz_ti, wz_wz, vI_wz, wz_id, wz_0, List.length_cons, List.length_nil, ↓reduceIte, true_and, and_true, Int.reduceLE, Int.reduceLT, Int.reduceEq, not_true_eq_false, not_false_eq_true, false_or, or_false, true_or, or_true, ite_not, Int.reduceNeg, Int32.reduceToInt, Nat.reduceAdd, Nat.reduceLeDiff, Nat.reduceLT, Nat.reduceEqDiff, Int.reduceAdd, Int.reduceSub, Int.reduceMul, Nat.zero_le, pk_po_ne, pk_po_eq, pk_po_ix, rI, ne_eq, g1, wz_of g1, e2, if_true, c1, if_false, c2, c5, eb]
                        exact ih3 _ _
              · intro n hn ihs
                have e2 : ¬ S 3 1 ≤ (n : Int) := by omega
                have hw1 := hH.wor n (by omega) (by omega)
                have gw := hR1.h.wor n (by omega) (by omega)
                have sr := svS_rng (v := vCv S (S 29 d)) (x := x) G12 (fun g hg => hvr g (by omega)) n (by omega)
                have hvn := hvr n (by omega)
                have sa := shr_at (x := x) (j := n) x12 (by omega)
                have b1 : 9 * (n : Int) + 1 < 108 := by omega
                have b2 : 0 ≤ 9 * (n : Int) + 1 := by omega
                have bb := bt_1 (x := x) (j := n)
                simp only [sm, Int.toNat_natCast] at ihs
                rw [s_192_198]
                rcases bb with bb | bb
                · rw [bb] at sa
                  simp only [bb, Nat.zero_ne_one, if_false, Int.add_zero] at ihs
                  have z0 : ¬ ((0 : Nat) : Int) = 1 := by decide
                  simp (disch := omega) only [↓x_al_0, ↓x_c, ↓pi_142_0, ↓x_il_1, ↓c_167, ↓x_eq0, ↓x_il_2, ↓c_120, ↓x_il_3, ↓x_il_4, ↓x_go, ↓c_119, ↓x_ne0, ↓x_ir, ↓gr_142_16, ↓x_imul, ↓x_is_5, ↓x_is_6, ↓x_is_7, ↓x_il_7, ↓gi_142_22, ↓x_ge, ↓gr_142_45, ↓x_ne, ↓gr_142_46, ↓c_155, ↓x_il_6, ↓x_ishl, ↓x_ior, ↓x_inc_7, ↓x_iadd, ↓gr_142_44, ↓x_il_5, ↓c_165, ↓x_is_8, ↓x_is_9, ↓x_is_10, ↓x_il_10, ↓x_ixor, ↓x_iand, ↓x_is_11, ↓x_is_12, ↓x_il_12, ↓x_il_11, ↓x_ishr, ↓gr_142_15, ↓c_170, ↓x_inc_12, ↓x_lt, ↓x_il_8, ↓x_eq, ↓x_il_9, ↓x_gt, ↓c_191, ↓x_inc_10, ↓ld_150, ↓ld_151, ↓ld_162, ↓ld_163, ↓ld_164, ↓n_192, ↓s_192_0, ↓s_192_49, ↓s_192_50, ↓s_192_58, ↓s_192_60, ↓s_192_129, ↓s_192_135, ↓s_192_192, ↓s_192_243, ↓s_192_244, ↓s_192_253, ↓s_192_296, ↓s_192_304, ↓s_192_310, ↓s_192_320, ↓s_192_330, ↓s_192_332, ↓bk_v, ↓bk_n, ↓bk_r, ↓pv_i, ↓pv_r, ↓pv_0, ↓pv_l, wz_pk, wz_ti, wz_wz, vI_wz, wz_id, wz_0, List.length_cons, List.length_nil, ↓reduceIte, true_and, and_true, Int.reduceLE, Int.reduceLT, Int.reduceEq, not_true_eq_false, not_false_eq_true, false_or, or_false, true_or, or_true, ite_not, Int.reduceNeg, Int32.reduceToInt, Nat.reduceAdd, Nat.reduceLeDiff, Nat.reduceLT, Nat.reduceEqDiff, Int.reduceAdd, Int.reduceSub, Int.reduceMul, Nat.zero_le, pk_po_ne, pk_po_eq, pk_po_ix, rI, ne_eq, g1, wz_of g1, e2, if_true, if_false, sa, z0, Int.add_zero]
                  exact ihs
                · rw [bb] at sa
                  simp only [bb, if_true] at ihs
                  have z0 : ((1 : Nat) : Int) = 1 := rfl
                  simp (disch := omega) only [↓x_al_0, ↓x_c, ↓pi_142_0, ↓x_il_1, ↓c_167, ↓x_eq0, ↓x_il_2, ↓c_120, ↓x_il_3, ↓x_il_4, ↓x_go, ↓c_119, ↓x_ne0, ↓x_ir, ↓gr_142_16, ↓x_imul, ↓x_is_5, ↓x_is_6, ↓x_is_7, ↓x_il_7, ↓gi_142_22, ↓x_ge, ↓gr_142_45, ↓x_ne, ↓gr_142_46, ↓c_155, ↓x_il_6, ↓x_ishl, ↓x_ior, ↓x_inc_7, ↓x_iadd, ↓gr_142_44, ↓x_il_5, ↓c_165, ↓x_is_8, ↓x_is_9, ↓x_is_10, ↓x_il_10, ↓x_ixor, ↓x_iand, ↓x_is_11, ↓x_is_12, ↓x_il_12, ↓x_il_11, ↓x_ishr, ↓gr_142_15, ↓c_170, ↓x_inc_12, ↓x_lt, ↓x_il_8, ↓x_eq, ↓x_il_9, ↓x_gt, ↓c_191, ↓x_inc_10, ↓ld_150, ↓ld_151, ↓ld_162, ↓ld_163, ↓ld_164, ↓n_192, ↓s_192_0, ↓s_192_49, ↓s_192_50, ↓s_192_58, ↓s_192_60, ↓s_192_129, ↓s_192_135, ↓s_192_192, ↓s_192_243, ↓s_192_244, ↓s_192_253, ↓s_192_296, ↓s_192_304, ↓s_192_310, ↓s_192_320, ↓s_192_330, ↓s_192_332, ↓bk_v, ↓bk_n, ↓bk_r, ↓pv_i, ↓pv_r, ↓pv_0, ↓pv_l, wz_pk, wz_ti, wz_wz, vI_wz, wz_id, wz_0, List.length_cons, List.length_nil, ↓reduceIte, true_and, and_true, Int.reduceLE, Int.reduceLT, Int.reduceEq, not_true_eq_false, not_false_eq_true, false_or, or_false, true_or, or_true, ite_not, Int.reduceNeg, Int32.reduceToInt, Nat.reduceAdd, Nat.reduceLeDiff, Nat.reduceLT, Nat.reduceEqDiff, Int.reduceAdd, Int.reduceSub, Int.reduceMul, Nat.zero_le, pk_po_ne, pk_po_eq, pk_po_ix, rI, ne_eq, g1, wz_of g1, e2, if_true, if_false, sa, z0, gw, b1, b2, ↓R170 hR1 hH (show 0 ≤ (n : Int) ∧ (n : Int) < S 3 1 by omega) hdb (show 0 ≤ S 12 n ∧ S 12 n ≤ 9999 by omega)]
                  exact ihs
            simp (disch := omega) only [↓x_al_0, ↓x_c, ↓pi_142_0, ↓x_il_1, ↓c_167, ↓x_eq0, ↓x_il_2, ↓c_120, ↓x_il_3, ↓x_il_4, ↓x_go, ↓c_119, ↓x_ne0, ↓x_ir, ↓gr_142_16, ↓x_imul, ↓x_is_5, ↓x_is_6, ↓x_is_7, ↓x_il_7, ↓gi_142_22, ↓x_ge, ↓gr_142_45, ↓x_ne, ↓gr_142_46, ↓c_155, ↓x_il_6, ↓x_ishl, ↓x_ior, ↓x_inc_7, ↓x_iadd, ↓gr_142_44, ↓x_il_5, ↓c_165, ↓x_is_8, ↓x_is_9, ↓x_is_10, ↓x_il_10, ↓x_ixor, ↓x_iand, ↓x_is_11, ↓x_is_12, ↓x_il_12, ↓x_il_11, ↓x_ishr, ↓gr_142_15, ↓c_170, ↓x_inc_12, ↓x_lt, ↓x_il_8, ↓x_eq, ↓x_il_9, ↓x_gt, ↓c_191, ↓x_inc_10, ↓ld_150, ↓ld_151, ↓ld_162, ↓ld_163, ↓ld_164, ↓n_192, ↓s_192_0, ↓s_192_49, ↓s_192_50, ↓s_192_58, ↓s_192_60, ↓s_192_129, ↓s_192_135, ↓s_192_192, ↓s_192_243, ↓s_192_244, ↓s_192_253, ↓s_192_296, ↓s_192_304, ↓s_192_310, ↓s_192_320, ↓s_192_330, ↓s_192_332, ↓bk_v, ↓bk_n, ↓bk_r, ↓pv_i, ↓pv_r, ↓pv_0, ↓pv_l, wz_pk, wz_ti, wz_wz, vI_wz, wz_id, wz_0, List.length_cons, List.length_nil, ↓reduceIte, true_and, and_true, Int.reduceLE, Int.reduceLT, Int.reduceEq, not_true_eq_false, not_false_eq_true, false_or, or_false, true_or, or_true, ite_not, Int.reduceNeg, Int32.reduceToInt, Nat.reduceAdd, Nat.reduceLeDiff, Nat.reduceLT, Nat.reduceEqDiff, Int.reduceAdd, Int.reduceSub, Int.reduceMul, Nat.zero_le, pk_po_ne, pk_po_eq, pk_po_ix, rI, ne_eq, g1, ← eG, sh, pz, e1, if_false, c0, wz_0, if_true]
            exact sum
          · rw [if_neg c] at hc
            have c0 : ¬ iand (x : Int) (ixor (mayN (okCv S d m o) G : Int) (-1)) = 0 := fun h9 => c (su.mp h9)
            have ih2 := ih M1 s1 b l A hA hc
            rw [ex1] at ih2
            simp (disch := omega) only [↓x_al_0, ↓x_c, ↓pi_142_0, ↓x_il_1, ↓c_167, ↓x_eq0, ↓x_il_2, ↓c_120, ↓x_il_3, ↓x_il_4, ↓x_go, ↓c_119, ↓x_ne0, ↓x_ir, ↓gr_142_16, ↓x_imul, ↓x_is_5, ↓x_is_6, ↓x_is_7, ↓x_il_7, ↓gi_142_22, ↓x_ge, ↓gr_142_45, ↓x_ne, ↓gr_142_46, ↓c_155, ↓x_il_6, ↓x_ishl, ↓x_ior, ↓x_inc_7, ↓x_iadd, ↓gr_142_44, ↓x_il_5, ↓c_165, ↓x_is_8, ↓x_is_9, ↓x_is_10, ↓x_il_10, ↓x_ixor, ↓x_iand, ↓x_is_11, ↓x_is_12, ↓x_il_12, ↓x_il_11, ↓x_ishr, ↓gr_142_15, ↓c_170, ↓x_inc_12, ↓x_lt, ↓x_il_8, ↓x_eq, ↓x_il_9, ↓x_gt, ↓c_191, ↓x_inc_10, ↓ld_150, ↓ld_151, ↓ld_162, ↓ld_163, ↓ld_164, ↓n_192, ↓s_192_0, ↓s_192_49, ↓s_192_50, ↓s_192_58, ↓s_192_60, ↓s_192_129, ↓s_192_135, ↓s_192_192, ↓s_192_243, ↓s_192_244, ↓s_192_253, ↓s_192_296, ↓s_192_304, ↓s_192_310, ↓s_192_320, ↓s_192_330, ↓s_192_332, ↓bk_v, ↓bk_n, ↓bk_r, ↓pv_i, ↓pv_r, ↓pv_0, ↓pv_l, wz_pk, wz_ti, wz_wz, vI_wz, wz_id, wz_0, List.length_cons, List.length_nil, ↓reduceIte, true_and, and_true, Int.reduceLE, Int.reduceLT, Int.reduceEq, not_true_eq_false, not_false_eq_true, false_or, or_false, true_or, or_true, ite_not, Int.reduceNeg, Int32.reduceToInt, Nat.reduceAdd, Nat.reduceLeDiff, Nat.reduceLT, Nat.reduceEqDiff, Int.reduceAdd, Int.reduceSub, Int.reduceMul, Nat.zero_le, pk_po_ne, pk_po_eq, pk_po_ix, rI, ne_eq, g1, ← eG, sh, pz, e1, if_false, wz_iand, c0]
            exact ih2 _ _
      -- which goods may be taken
      have key : ∀ M1, SF (po M 142 0 0) M1 → EX 192 (sx 192 76) [.ref 142, vI d, vI m, vI o, vI w, vI (S 29 d), vI (mayN (okCv S d m o) 0 : Nat), vI ((0 : Nat) : Int), .null, .null, .null, .null, .null] [] (mkh X s dh dl t M1) Q := by
        refine lp (n := G) (fun n => ∀ M1, SF (po M 142 0 0) M1 → EX 192 (sx 192 76) [.ref 142, vI d, vI m, vI o, vI w, vI (S 29 d), vI (mayN (okCv S d m o) n : Nat), vI (n : Int), .null, .null, .null, .null, .null] [] (mkh X s dh dl t M1) Q) ?_ ?_
        · intro M1 s1
          have hR1 := hR0.sf s1
          have g1 := hR1.h.ng
          have g2 := hR1.h.amt d h.1 h.2
          have g3 := hR1.c.stage (S 29 d) hdb.1 (by omega)
          have e2 : S 3 1 ≤ (G : Int) := by omega
          have b1 : 3 * d + 1 < 18 := by omega
          have b2 : 0 ≤ 3 * d + 1 := by omega
          have b3 : S 29 d < 4 := by omega
          have b4 : 0 ≤ S 29 d := hdb.1
          have k := sets M1 s1 (-1) 0 (-1, -1, 0) ⟨rfl, fun _ => rfl, fun h9 => absurd rfl h9, by omega⟩ ?_ .null .null
          · rw [s_192_76]
            simp (disch := omega) only [↓x_al_0, ↓x_c, ↓pi_142_0, ↓x_il_1, ↓c_167, ↓x_eq0, ↓x_il_2, ↓c_120, ↓x_il_3, ↓x_il_4, ↓x_go, ↓c_119, ↓x_ne0, ↓x_ir, ↓gr_142_16, ↓x_imul, ↓x_is_5, ↓x_is_6, ↓x_is_7, ↓x_il_7, ↓gi_142_22, ↓x_ge, ↓gr_142_45, ↓x_ne, ↓gr_142_46, ↓c_155, ↓x_il_6, ↓x_ishl, ↓x_ior, ↓x_inc_7, ↓x_iadd, ↓gr_142_44, ↓x_il_5, ↓c_165, ↓x_is_8, ↓x_is_9, ↓x_is_10, ↓x_il_10, ↓x_ixor, ↓x_iand, ↓x_is_11, ↓x_is_12, ↓x_il_12, ↓x_il_11, ↓x_ishr, ↓gr_142_15, ↓c_170, ↓x_inc_12, ↓x_lt, ↓x_il_8, ↓x_eq, ↓x_il_9, ↓x_gt, ↓c_191, ↓x_inc_10, ↓ld_150, ↓ld_151, ↓ld_162, ↓ld_163, ↓ld_164, ↓n_192, ↓s_192_0, ↓s_192_49, ↓s_192_50, ↓s_192_58, ↓s_192_60, ↓s_192_129, ↓s_192_135, ↓s_192_192, ↓s_192_243, ↓s_192_244, ↓s_192_253, ↓s_192_296, ↓s_192_304, ↓s_192_310, ↓s_192_320, ↓s_192_330, ↓s_192_332, ↓bk_v, ↓bk_n, ↓bk_r, ↓pv_i, ↓pv_r, ↓pv_0, ↓pv_l, wz_pk, wz_ti, wz_wz, vI_wz, wz_id, wz_0, List.length_cons, List.length_nil, ↓reduceIte, true_and, and_true, Int.reduceLE, Int.reduceLT, Int.reduceEq, not_true_eq_false, not_false_eq_true, false_or, or_false, true_or, or_true, ite_not, Int.reduceNeg, Int32.reduceToInt, Nat.reduceAdd, Nat.reduceLeDiff, Nat.reduceLT, Nat.reduceEqDiff, Int.reduceAdd, Int.reduceSub, Int.reduceMul, Nat.zero_le, pk_po_ne, pk_po_eq, pk_po_ix, rI, ne_eq, g1, wz_of g1, e2, if_true, g2, g3, b1, b2, b3, b4, ↓R165 hR1 hst.1 hst.2]
            exact k
          · rw [Nat.sub_zero, cvA_F G12 G (Nat.le_refl _) 0 (Nat.zero_mod _) (by omega) (by rw [sbB_is]; intro j _ hb; simp [bt] at hb)]
            have e0 : svS (vCv S (S 29 d)) G 0 = 0 := by
              unfold svS
              have : ∀ n : Nat, sm (fun j => if bt 0 j.toNat = 1 then vCv S (S 29 d) j else 0) n = 0 := by
                intro n
                induction n with
                | zero => rfl
                | succ n ihn => simp only [sm]; rw [ihn]; simp [bt]
              exact this G
            rw [e0, pc_0, hG]
            rfl
        · intro n hn ih M1 s1
          have hR1 := hR0.sf s1
          have g1 := hR1.h.ng
          have e2 : ¬ S 3 1 ≤ (n : Int) := by omega
          have g2 := hR1.c.sold n (by omega) (by omega)
          have g3 := hR1.c.given n (by omega) (by omega)
          have b1 : (n : Int) < 12 := by omega
          have b2 : 0 ≤ (n : Int) := by omega
          have ex1 : ((n + 1 : Nat) : Int) = (n : Int) + 1 := by omega
          rw [ex1] at ih
          rw [s_192_76]
          by_cases c1 : S 83 n = -1
          · by_cases c2 : S 84 n = 0
            · simp (disch := omega) only [↓x_al_0, ↓x_c, ↓pi_142_0, ↓x_il_1, ↓c_167, ↓x_eq0, ↓x_il_2, ↓c_120, ↓x_il_3, ↓x_il_4, ↓x_go, ↓c_119, ↓x_ne0, ↓x_ir, ↓gr_142_16, ↓x_imul, ↓x_is_5, ↓x_is_6, ↓x_is_7, ↓x_il_7, ↓gi_142_22, ↓x_ge, ↓gr_142_45, ↓x_ne, ↓gr_142_46, ↓c_155, ↓x_il_6, ↓x_ishl, ↓x_ior, ↓x_inc_7, ↓x_iadd, ↓gr_142_44, ↓x_il_5, ↓c_165, ↓x_is_8, ↓x_is_9, ↓x_is_10, ↓x_il_10, ↓x_ixor, ↓x_iand, ↓x_is_11, ↓x_is_12, ↓x_il_12, ↓x_il_11, ↓x_ishr, ↓gr_142_15, ↓c_170, ↓x_inc_12, ↓x_lt, ↓x_il_8, ↓x_eq, ↓x_il_9, ↓x_gt, ↓c_191, ↓x_inc_10, ↓ld_150, ↓ld_151, ↓ld_162, ↓ld_163, ↓ld_164, ↓n_192, ↓s_192_0, ↓s_192_49, ↓s_192_50, ↓s_192_58, ↓s_192_60, ↓s_192_129, ↓s_192_192, ↓s_192_243, ↓s_192_244, ↓s_192_253, ↓s_192_296, ↓s_192_304, ↓s_192_310, ↓s_192_320, ↓s_192_330, ↓s_192_332, ↓bk_v, ↓bk_n, ↓bk_r, ↓pv_i, ↓pv_r, ↓pv_0, ↓pv_l, wz_pk, wz_ti, wz_wz, vI_wz, wz_id, wz_0, List.length_cons, List.length_nil, ↓reduceIte, true_and, and_true, Int.reduceLE, Int.reduceLT, Int.reduceEq, not_true_eq_false, not_false_eq_true, false_or, or_false, true_or, or_true, ite_not, Int.reduceNeg, Int32.reduceToInt, Nat.reduceAdd, Nat.reduceLeDiff, Nat.reduceLT, Nat.reduceEqDiff, Int.reduceAdd, Int.reduceSub, Int.reduceMul, Nat.zero_le, pk_po_ne, pk_po_eq, pk_po_ix, rI, ne_eq, g1, wz_of g1, e2, if_true, if_false, g2, g3, wz_of g3, b1, b2, c1, c2]
              refine R155 hR1 hH hL hI h ⟨by omega, by omega⟩ h2.1.1 h2.1.2 (Or.inl ⟨rfl, rfl⟩) ?_
              intro M2 s2
              have s2 := s1.trans s2
              have hb := barOf_rng (f := fct S d n m o m) hL
              have eb : wz (barOf S (fct S d n m o m)) = barOf S (fct S d n m o m) := wz_id (by omega) (by omega)
              have ih2 := ih M2 s2
              have cg : gone S n = false := by simp [gone, c1, c2]
              simp only [mayN] at ih2
              by_cases c3 : barOf S (fct S d n m o m) = -1
              · have hok : okCv S d m o n = true := by
                  unfold okCv
                  rw [cg]
                  have : barred S d n m o = -1 := c3
                  simp [this]
                rw [if_pos hok] at ih2
                have oa := or_at (g := n) (x := mayN (okCv S d m o) n) (by omega) (may_lt n)
                have ep : ((mayN (okCv S d m o) n + 2 ^ n : Nat) : Int) = (mayN (okCv S d m o) n : Int) + 2 ^ n := by push_cast; rfl
                rw [ep] at ih2
                simp (disch := omega) only [↓x_al_0, ↓x_c, ↓pi_142_0, ↓x_il_1, ↓c_167, ↓x_eq0, ↓x_il_2, ↓c_120, ↓x_il_3, ↓x_il_4, ↓x_go, ↓c_119, ↓x_ne0, ↓x_ir, ↓gr_142_16, ↓x_imul, ↓x_is_5, ↓x_is_6, ↓x_is_7, ↓x_il_7, ↓gi_142_22, ↓x_ge, ↓gr_142_45, ↓x_ne, ↓gr_142_46, ↓c_155, ↓x_il_6, ↓x_ishl, ↓x_ior, ↓x_inc_7, ↓x_iadd, ↓gr_142_44, ↓x_il_5, ↓c_165, ↓x_is_8, ↓x_is_9, ↓x_is_10, ↓x_il_10, ↓x_ixor, ↓x_iand, ↓x_is_11, ↓x_is_12, ↓x_il_12, ↓x_il_11, ↓x_ishr, ↓gr_142_15, ↓c_170, ↓x_inc_12, ↓x_lt, ↓x_il_8, ↓x_eq, ↓x_il_9, ↓x_gt, ↓c_191, ↓x_inc_10, ↓ld_150, ↓ld_151, ↓ld_162, ↓ld_163, ↓ld_164, ↓n_192, ↓s_192_0, ↓s_192_49, ↓s_192_50, ↓s_192_58, ↓s_192_60, ↓s_192_129, ↓s_192_192, ↓s_192_243, ↓s_192_244, ↓s_192_253, ↓s_192_296, ↓s_192_304, ↓s_192_310, ↓s_192_320, ↓s_192_330, ↓s_192_332, ↓bk_v, ↓bk_n, ↓bk_r, ↓pv_i, ↓pv_r, ↓pv_0, ↓pv_l, wz_pk, wz_ti, wz_wz, vI_wz, wz_id, wz_0, List.length_cons, List.length_nil, ↓reduceIte, true_and, and_true, Int.reduceLE, Int.reduceLT, Int.reduceEq, not_true_eq_false, not_false_eq_true, false_or, or_false, true_or, or_true, ite_not, Int.reduceNeg, Int32.reduceToInt, Nat.reduceAdd, Nat.reduceLeDiff, Nat.reduceLT, Nat.reduceEqDiff, Int.reduceAdd, Int.reduceSub, Int.reduceMul, Nat.zero_le, pk_po_ne, pk_po_eq, pk_po_ix, rI, ne_eq, eb, c3, if_true, if_false, oa]
                exact ih2
              · have hok : okCv S d m o n = false := by
                  unfold okCv
                  have : ¬ barred S d n m o = -1 := c3
                  simp [this]
                rw [if_neg (by rw [hok]; decide), Nat.add_zero] at ih2
                simp (disch := omega) only [↓x_al_0, ↓x_c, ↓pi_142_0, ↓x_il_1, ↓c_167, ↓x_eq0, ↓x_il_2, ↓c_120, ↓x_il_3, ↓x_il_4, ↓x_go, ↓c_119, ↓x_ne0, ↓x_ir, ↓gr_142_16, ↓x_imul, ↓x_is_5, ↓x_is_6, ↓x_is_7, ↓x_il_7, ↓gi_142_22, ↓x_ge, ↓gr_142_45, ↓x_ne, ↓gr_142_46, ↓c_155, ↓x_il_6, ↓x_ishl, ↓x_ior, ↓x_inc_7, ↓x_iadd, ↓gr_142_44, ↓x_il_5, ↓c_165, ↓x_is_8, ↓x_is_9, ↓x_is_10, ↓x_il_10, ↓x_ixor, ↓x_iand, ↓x_is_11, ↓x_is_12, ↓x_il_12, ↓x_il_11, ↓x_ishr, ↓gr_142_15, ↓c_170, ↓x_inc_12, ↓x_lt, ↓x_il_8, ↓x_eq, ↓x_il_9, ↓x_gt, ↓c_191, ↓x_inc_10, ↓ld_150, ↓ld_151, ↓ld_162, ↓ld_163, ↓ld_164, ↓n_192, ↓s_192_0, ↓s_192_49, ↓s_192_50, ↓s_192_58, ↓s_192_60, ↓s_192_129, ↓s_192_192, ↓s_192_243, ↓s_192_244, ↓s_192_253, ↓s_192_296, ↓s_192_304, ↓s_192_310, ↓s_192_320, ↓s_192_330, ↓s_192_332, ↓bk_v, ↓bk_n, ↓bk_r, ↓pv_i, ↓pv_r, ↓pv_0, ↓pv_l, wz_pk, wz_ti, wz_wz, vI_wz, wz_id, wz_0, List.length_cons, List.length_nil, ↓reduceIte, true_and, and_true, Int.reduceLE, Int.reduceLT, Int.reduceEq, not_true_eq_false, not_false_eq_true, false_or, or_false, true_or, or_true, ite_not, Int.reduceNeg, Int32.reduceToInt, Nat.reduceAdd, Nat.reduceLeDiff, Nat.reduceLT, Nat.reduceEqDiff, Int.reduceAdd, Int.reduceSub, Int.reduceMul, Nat.zero_le, pk_po_ne, pk_po_eq, pk_po_ix, rI, ne_eq, eb, c3, if_true, if_false]
                exact ih2
            · have hok : okCv S d m o n = false := by simp [okCv, gone, c2]
              have ih2 := ih M1 s1
              simp only [mayN] at ih2
              rw [if_neg (by rw [hok]; decide), Nat.add_zero] at ih2
              simp (disch := omega) only [↓x_al_0, ↓x_c, ↓pi_142_0, ↓x_il_1, ↓c_167, ↓x_eq0, ↓x_il_2, ↓c_120, ↓x_il_3, ↓x_il_4, ↓x_go, ↓c_119, ↓x_ne0, ↓x_ir, ↓gr_142_16, ↓x_imul, ↓x_is_5, ↓x_is_6, ↓x_is_7, ↓x_il_7, ↓gi_142_22, ↓x_ge, ↓gr_142_45, ↓x_ne, ↓gr_142_46, ↓c_155, ↓x_il_6, ↓x_ishl, ↓x_ior, ↓x_inc_7, ↓x_iadd, ↓gr_142_44, ↓x_il_5, ↓c_165, ↓x_is_8, ↓x_is_9, ↓x_is_10, ↓x_il_10, ↓x_ixor, ↓x_iand, ↓x_is_11, ↓x_is_12, ↓x_il_12, ↓x_il_11, ↓x_ishr, ↓gr_142_15, ↓c_170, ↓x_inc_12, ↓x_lt, ↓x_il_8, ↓x_eq, ↓x_il_9, ↓x_gt, ↓c_191, ↓x_inc_10, ↓ld_150, ↓ld_151, ↓ld_162, ↓ld_163, ↓ld_164, ↓n_192, ↓s_192_0, ↓s_192_49, ↓s_192_50, ↓s_192_58, ↓s_192_60, ↓s_192_129, ↓s_192_192, ↓s_192_243, ↓s_192_244, ↓s_192_253, ↓s_192_296, ↓s_192_304, ↓s_192_310, ↓s_192_320, ↓s_192_330, ↓s_192_332, ↓bk_v, ↓bk_n, ↓bk_r, ↓pv_i, ↓pv_r, ↓pv_0, ↓pv_l, wz_pk, wz_ti, wz_wz, vI_wz, wz_id, wz_0, List.length_cons, List.length_nil, ↓reduceIte, true_and, and_true, Int.reduceLE, Int.reduceLT, Int.reduceEq, not_true_eq_false, not_false_eq_true, false_or, or_false, true_or, or_true, ite_not, Int.reduceNeg, Int32.reduceToInt, Nat.reduceAdd, Nat.reduceLeDiff, Nat.reduceLT, Nat.reduceEqDiff, Int.reduceAdd, Int.reduceSub, Int.reduceMul, Nat.zero_le, pk_po_ne, pk_po_eq, pk_po_ix, rI, ne_eq, g1, wz_of g1, e2, if_true, if_false, g2, g3, wz_of g3, b1, b2, c1, c2]
              exact ih2
          · have hok : okCv S d m o n = false := by simp [okCv, gone, c1]
            have ih2 := ih M1 s1
            simp only [mayN] at ih2
            rw [if_neg (by rw [hok]; decide), Nat.add_zero] at ih2
            simp (disch := omega) only [↓x_al_0, ↓x_c, ↓pi_142_0, ↓x_il_1, ↓c_167, ↓x_eq0, ↓x_il_2, ↓c_120, ↓x_il_3, ↓x_il_4, ↓x_go, ↓c_119, ↓x_ne0, ↓x_ir, ↓gr_142_16, ↓x_imul, ↓x_is_5, ↓x_is_6, ↓x_is_7, ↓x_il_7, ↓gi_142_22, ↓x_ge, ↓gr_142_45, ↓x_ne, ↓gr_142_46, ↓c_155, ↓x_il_6, ↓x_ishl, ↓x_ior, ↓x_inc_7, ↓x_iadd, ↓gr_142_44, ↓x_il_5, ↓c_165, ↓x_is_8, ↓x_is_9, ↓x_is_10, ↓x_il_10, ↓x_ixor, ↓x_iand, ↓x_is_11, ↓x_is_12, ↓x_il_12, ↓x_il_11, ↓x_ishr, ↓gr_142_15, ↓c_170, ↓x_inc_12, ↓x_lt, ↓x_il_8, ↓x_eq, ↓x_il_9, ↓x_gt, ↓c_191, ↓x_inc_10, ↓ld_150, ↓ld_151, ↓ld_162, ↓ld_163, ↓ld_164, ↓n_192, ↓s_192_0, ↓s_192_49, ↓s_192_50, ↓s_192_58, ↓s_192_60, ↓s_192_129, ↓s_192_192, ↓s_192_243, ↓s_192_244, ↓s_192_253, ↓s_192_296, ↓s_192_304, ↓s_192_310, ↓s_192_320, ↓s_192_330, ↓s_192_332, ↓bk_v, ↓bk_n, ↓bk_r, ↓pv_i, ↓pv_r, ↓pv_0, ↓pv_l, wz_pk, wz_ti, wz_wz, vI_wz, wz_id, wz_0, List.length_cons, List.length_nil, ↓reduceIte, true_and, and_true, Int.reduceLE, Int.reduceLT, Int.reduceEq, not_true_eq_false, not_false_eq_true, false_or, or_false, true_or, or_true, ite_not, Int.reduceNeg, Int32.reduceToInt, Nat.reduceAdd, Nat.reduceLeDiff, Nat.reduceLT, Nat.reduceEqDiff, Int.reduceAdd, Int.reduceSub, Int.reduceMul, Nat.zero_le, pk_po_ne, pk_po_eq, pk_po_ix, rI, ne_eq, g1, wz_of g1, e2, if_true, if_false, g2, g3, wz_of g2, b1, b2, c1]
            exact ih2
      have key := key _ SF.rfl
      have g2 := hR.h.dbt d h.1 h.2
      have b1 : 3 * d < 18 := by omega
      have b2 : 0 ≤ 3 * d := by omega
      simp only [mayN] at key
      simp (disch := omega) only [↓x_al_0, ↓x_c, ↓pi_142_0, ↓x_il_1, ↓c_167, ↓x_eq0, ↓x_il_2, ↓c_120, ↓x_il_3, ↓x_il_4, ↓x_go, ↓c_119, ↓x_ne0, ↓x_ir, ↓gr_142_16, ↓x_imul, ↓x_is_5, ↓x_is_6, ↓x_is_7, ↓x_il_7, ↓gi_142_22, ↓x_ge, ↓gr_142_45, ↓x_ne, ↓gr_142_46, ↓c_155, ↓x_il_6, ↓x_ishl, ↓x_ior, ↓x_inc_7, ↓x_iadd, ↓gr_142_44, ↓x_il_5, ↓c_165, ↓x_is_8, ↓x_is_9, ↓x_is_10, ↓x_il_10, ↓x_ixor, ↓x_iand, ↓x_is_11, ↓x_is_12, ↓x_il_12, ↓x_il_11, ↓x_ishr, ↓gr_142_15, ↓c_170, ↓x_inc_12, ↓x_lt, ↓x_il_8, ↓x_eq, ↓x_il_9, ↓x_gt, ↓c_191, ↓x_inc_10, ↓ld_150, ↓ld_151, ↓ld_162, ↓ld_163, ↓ld_164, ↓n_192, ↓s_192_0, ↓s_192_49, ↓s_192_50, ↓s_192_58, ↓s_192_60, ↓s_192_129, ↓s_192_135, ↓s_192_192, ↓s_192_243, ↓s_192_244, ↓s_192_253, ↓s_192_296, ↓s_192_304, ↓s_192_310, ↓s_192_320, ↓s_192_330, ↓s_192_332, ↓bk_v, ↓bk_n, ↓bk_r, ↓pv_i, ↓pv_r, ↓pv_0, ↓pv_l, wz_pk, wz_ti, wz_wz, vI_wz, wz_id, wz_0, List.length_cons, List.length_nil, ↓reduceIte, true_and, and_true, Int.reduceLE, Int.reduceLT, Int.reduceEq, not_true_eq_false, not_false_eq_true, false_or, or_false, true_or, or_true, ite_not, Int.reduceNeg, Int32.reduceToInt, Nat.reduceAdd, Nat.reduceLeDiff, Nat.reduceLT, Nat.reduceEqDiff, Int.reduceAdd, Int.reduceSub, Int.reduceMul, Nat.zero_le, pk_po_ne, pk_po_eq, pk_po_ix, rI, ne_eq, g2, b1, b2]
      exact key
    · have e := fun v => hP.no (v := v) 2 (by decide) (by rw [o_cover, if_pos h, if_neg h2]) (hR0.ref (c := 2) (k := 1) (by decide)) hF0.rfM (rfM_t rfl)
      clear hP hR hR0 hH hI hF0 hL
      by_cases c1 : 0 ≤ m ∧ m ≤ 9999
      · by_cases c2 : 0 ≤ o ∧ o ≤ 2
        · have c3 : ¬ (0 ≤ w ∧ w ≤ 1) := fun x => h2 ⟨⟨c1, c2⟩, x⟩
          simp only [c1, c2, c3, and_self, if_true, if_false, not_true_eq_false, not_false_eq_true, wz_0]
          exact e _
        · simp only [c1, c2, and_self, if_true, if_false, not_true_eq_false, not_false_eq_true, wz_0]
          exact e _
      · simp only [c1, if_true, if_false, not_true_eq_false, not_false_eq_true, wz_0]
        exact e _
  · rw [if_neg h]
    exact hP.no 1 (by decide) (by rw [o_cover, if_neg h]) (hR0.ref (by decide)) hF0.rfM (rfM_t rfl)
end R71
