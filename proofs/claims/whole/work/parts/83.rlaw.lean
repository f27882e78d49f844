/-! THE REFERENCE: a law that is read -/
def cR (c : Int) : Int := if c = 0 then -1 else 13 - c
def RNl (S : St) (M : Mem) : Prop := pk M 142 32 = S 69 1 ∧ (∀ i, 0 ≤ i → i < S 69 1 → pk M 155 i = stpC (S 70 i) (S 71 i)) ∧ (∀ i, 0 ≤ i → i < S 69 1 → pk M 156 i = stpV (S 70 i) (S 71 i) (S 72 i)) ∧ (∀ r, 0 ≤ r → r < S 69 0 → pk M 158 (r + 1) = S 73 r)
def TQ (S : St) (W : Int → Int) (k : Int) (M : Mem) : Prop := RNl S M ∧ pk M 142 34 = k ∧ ∀ j, 0 ≤ j → j < k → pk M 160 j = cR (W j)
def lfx (a : Nat) (i : Int) : Bool := decide (a = 155) || decide (a = 156) || decide (a = 158) || decide (a = 160) || decide (a = 142 ∧ (i = 4 ∨ i = 5 ∨ i = 6 ∨ i = 32 ∨ i = 34))
def NL (M M' : Mem) : Prop := FR M M' ∧ ∀ a i, lfx a i = false → pk M' a i = pk M a i
def BAD (M : Mem) (k y : Int) : Prop := pk M 142 5 = y ∧ pk M 142 6 = k ∧ ¬ y = -1
section R83
variable {Q : MOut → MHp → Prop} {X : Nat × (Nat → Int32)} {s : Bool × Bool} {dh dl t : Nat} {M : Mem} {S : St} {p n x k : Int} {W : Int → Int}
theorem NL.rfl {M : Mem} : NL M M := ⟨FR.rfl, fun _ _ _ => Eq.refl _⟩
theorem NL.trans {M M' M'' : Mem} (h : NL M M') (h2 : NL M' M'') : NL M M'' := ⟨h.1.trans h2.1, fun a i ha => by rw [h2.2 a i ha, h.2 a i ha]⟩
theorem NL.pw {M M' : Mem} {a : Nat} {i x : Int} (h : NL M M') (ha : lfx a i = true) : NL M (po M' a i x) := by
  refine ⟨h.1.pw ?_, fun b j hb => ?_⟩
  · simp only [lfx, Bool.or_eq_true, decide_eq_true_eq] at ha
    omega
  · rw [pk_po, if_neg, h.2 b j hb]
    rintro ⟨rfl, rfl⟩
    rw [hb] at ha
    cases ha
theorem NL.ra {M M' : Mem} {p : Int} (h : NL M M') : NL M (ra M' p) := h.pw _root_.rfl
theorem RR.nl {M M' : Mem} (h : RR S M) (hf : NL M M') : RR S M' := h.sm (fun a i ha => hf.2 a i (by
  simp only [rst, Bool.or_eq_true, Bool.and_eq_true, decide_eq_true_eq] at ha
  simp only [lfx, Bool.or_eq_false_iff, decide_eq_false_iff_not]
  omega))
theorem TR.nl {M' : Mem} (h : TR S n M) (hf : NL M M') : TR S n M' := ⟨fun i a b => by rw [hf.2 _ _ _root_.rfl]; exact h.1 i a b, by rw [hf.2 _ _ _root_.rfl]; exact h.2.1, h.2.2⟩
theorem RNl.add {c b v : Int} (h : RNl S M) (hs : 0 ≤ S 69 1 ∧ S 69 1 < 300) (w1 : wz (stpC c b) = stpC c b) (w2 : wz (stpV c b v) = stpV c b v) : RNl (lawAdd S c b v) (po (po (po M 155 (S 69 1) (stpC c b)) 156 (S 69 1) (stpV c b v)) 142 32 (S 69 1 + 1)) := by
  obtain ⟨h1, h2, h3, h4⟩ := h
  have w3 : wz (S 69 1 + 1) = S 69 1 + 1 := wz_id (by omega) (by omega)
  refine ⟨?_, ?_, ?_, ?_⟩
  · rw [pk_po_eq, w3]; simp [lawAdd, su]
  · intro i e1 e2
    rw [lawAdd_n] at e2
    rw [pk_po_ne (by decide), pk_po_ne (by decide), pk_po]
    by_cases c1 : i = S 69 1
    · subst c1; rw [if_pos ⟨rfl, rfl⟩, w1]; simp [lawAdd, su]
    · rw [if_neg (fun h => c1 h.2), h2 i e1 (by omega)]; simp [lawAdd, su, c1]
  · intro i e1 e2
    rw [lawAdd_n] at e2
    rw [pk_po_ne (by decide), pk_po]
    by_cases c1 : i = S 69 1
    · subst c1; rw [if_pos ⟨rfl, rfl⟩, w2]; simp [lawAdd, su]
    · rw [if_neg (fun h => c1 h.2), pk_po_ne (by decide), h3 i e1 (by omega)]; simp [lawAdd, su, c1]
  · intro r e1 e2
    have e3 : r < S 69 0 := by simpa [lawAdd, su] using e2
    rw [pk_po_ne (by decide), pk_po_ne (by decide), pk_po_ne (by decide), h4 r e1 e3]
    simp [lawAdd, su]
theorem TQ.add {c b v : Int} (h : TQ S W k M) (hs : 0 ≤ S 69 1 ∧ S 69 1 < 300) (w1 : wz (stpC c b) = stpC c b) (w2 : wz (stpV c b v) = stpV c b v) : TQ (lawAdd S c b v) W k (po (po (po M 155 (S 69 1) (stpC c b)) 156 (S 69 1) (stpV c b v)) 142 32 (S 69 1 + 1)) := ⟨h.1.add hs w1 w2, by rw [pk_po_ix (by decide), pk_po_ne (by decide), pk_po_ne (by decide)]; exact h.2.1, fun j a b => by rw [pk_po_ne (by decide), pk_po_ne (by decide), pk_po_ne (by decide)]; exact h.2.2 j a b⟩
theorem RNl.ra (h : RNl S M) : RNl S (ra M p) := by
  obtain ⟨h1, h2, h3, h4⟩ := h
  exact ⟨by rw [ra_x (by decide)]; exact h1, fun i a b => by rw [ra_n (by decide)]; exact h2 i a b, fun i a b => by rw [ra_n (by decide)]; exact h3 i a b, fun i a b => by rw [ra_n (by decide)]; exact h4 i a b⟩
theorem R144 {c y : Int} (hb : pk M 142 5 = -1) (h : pk M 142 32 = k) (hk : 0 ≤ k ∧ k < 300) : CL 144 [.ref 142, vI c, vI y] (mkh X s dh dl t (ra M p)) Q ↔ Q (.inl none) (mkh X s dh dl t (ra (po (po (po M 155 k c) 156 k y) 142 32 (k + 1)) p)) := by
  have hfi : pk (ra M p) 142 5 = -1 := by rw [ra_x (by decide)]; exact hb
  simp (disch := omega) only [↓x_al_0, ↓c_123, ↓x_ne0, ↓x_rt, ↓gr_142_26, ↓gi_142_32, ↓x_il_1, ↓gr_142_27, ↓x_il_2, ↓x_dup_i, ↓x_dup_r, ↓x_c, ↓x_iadd, ↓pi_142_32, ↓st_155, ↓st_156, ↓n_144, ↓s_144_0, ↓s_144_8, ↓bk_v, ↓bk_n, ↓bk_r, ↓pv_i, ↓pv_r, ↓pv_0, ↓pv_l, wz_pk, wz_ti, wz_wz, vI_wz, wz_id, wz_0, List.length_cons, List.length_nil, ↓reduceIte, true_and, and_true, Int.reduceLE, Int.reduceLT, Int.reduceEq, not_true_eq_false, not_false_eq_true, false_or, or_false, true_or, or_true, ite_not, Int.reduceNeg, Int32.reduceToInt, Nat.reduceAdd, Nat.reduceLeDiff, Nat.reduceLT, Nat.reduceEqDiff, Int.reduceAdd, Int.reduceSub, Int.reduceMul, Nat.zero_le, pk_po_ne, pk_po_eq, pk_po_ix, rI, ne_eq, ↓R123, hfi, decide_true, bi_wz, bi_0, Bool.true_eq_false, if_false, ra_x, ra_po, ra_px, h, hk.1, hk.2]
theorem R144b {c y : Int} (hb : ¬ pk M 142 5 = -1) : CL 144 [.ref 142, vI c, vI y] (mkh X s dh dl t M) Q ↔ Q (.inl none) (mkh X s dh dl t M) := by
  simp only [↓x_al_0, ↓c_123, ↓x_ne0, ↓x_rt, ↓gr_142_26, ↓gi_142_32, ↓x_il_1, ↓gr_142_27, ↓x_il_2, ↓x_dup_i, ↓x_dup_r, ↓x_c, ↓x_iadd, ↓pi_142_32, ↓st_155, ↓st_156, ↓n_144, ↓s_144_0, ↓s_144_8, ↓bk_v, ↓bk_n, ↓bk_r, ↓pv_i, ↓pv_r, ↓pv_0, ↓pv_l, wz_pk, wz_ti, wz_wz, vI_wz, wz_id, wz_0, List.length_cons, List.length_nil, ↓reduceIte, true_and, and_true, Int.reduceLE, Int.reduceLT, Int.reduceEq, not_true_eq_false, not_false_eq_true, false_or, or_false, true_or, or_true, ite_not, Int.reduceNeg, Int32.reduceToInt, Nat.reduceAdd, Nat.reduceLeDiff, Nat.reduceLT, Nat.reduceEqDiff, Int.reduceAdd, Int.reduceSub, Int.reduceMul, Nat.zero_le, pk_po_ne, pk_po_eq, pk_po_ix, rI, ne_eq, ↓R123, hb, decide_false, bi_wz, bi_0, if_true]
theorem R147 {c : Int} (h : pk M 142 34 = k) (hk : 0 ≤ k ∧ k < 300) : CL 147 [.ref 142, vI c] (mkh X s dh dl t (ra M p)) Q ↔ Q (.inl none) (mkh X s dh dl t (ra (po (po M 160 k c) 142 34 (k + 1)) p)) := by
  simp (disch := omega) only [↓x_al_0, ↓gr_142_33, ↓gi_142_34, ↓x_il_1, ↓x_dup_i, ↓x_dup_r, ↓x_c, ↓x_iadd, ↓pi_142_34, ↓x_rt, ↓st_160, ↓n_147, ↓s_147_0, ↓pv_i, ↓pv_r, ↓pv_0, ↓pv_l, wz_pk, wz_ti, wz_wz, vI_wz, wz_id, wz_0, List.length_cons, List.length_nil, ↓reduceIte, true_and, and_true, Int.reduceLE, Int.reduceLT, Int.reduceEq, not_true_eq_false, not_false_eq_true, false_or, or_false, true_or, or_true, ite_not, Int.reduceNeg, Int32.reduceToInt, Nat.reduceAdd, Nat.reduceLeDiff, Nat.reduceLT, Nat.reduceEqDiff, Int.reduceAdd, Int.reduceSub, Int.reduceMul, Nat.zero_le, pk_po_ne, pk_po_eq, pk_po_ix, rI, ne_eq, ra_x, ra_po, ra_px, h, hk.1, hk.2]
theorem rel_un {w : Int} (hk : 0 ≤ k) : rel w S W k = if 0 < k ∧ w ≤ W (k - 1) then rel w (lawAdd S (W (k - 1)) 0 0) W (k - 1) else (S, k) := by
  unfold rel
  by_cases c : 0 < k
  · rw [show k.toNat = (k - 1).toNat + 1 by omega, relF]
  · rw [show k.toNat = 0 by omega, relF, if_neg (fun h => c h.1)]
theorem rel_rel {w : Int} (hw : w ≤ 3) : ∀ (m : Nat) (S : St) (k : Int), k.toNat = m → 0 ≤ k → rel w (rel 3 S W k).1 W (rel 3 S W k).2 = rel w S W k := by
  intro m
  induction m with
  | zero =>
    intro S k h1 h2
    rw [rel_un (w := 3) h2, if_neg (by omega)]
  | succ m ih =>
    intro S k h1 h2
    rw [rel_un (w := 3) h2]
    by_cases c : 0 < k ∧ 3 ≤ W (k - 1)
    · rw [if_pos c, ih _ (k - 1) (by omega) (by omega)]
      conv => rhs; rw [rel_un h2, if_pos ⟨c.1, by omega⟩]
    · rw [if_neg c]
theorem R146 {w : Int} (hw : 1 ≤ w ∧ w ≤ 3) (hb : pk M 142 5 = -1) (hW : ∀ j, 0 ≤ j → j < k → 0 ≤ W j ∧ W j ≤ 3) (hk : 0 ≤ k) (hs : 0 ≤ S 69 1 ∧ S 69 1 + k ≤ 300) (hT : TQ S W k M)
    (hQ : ∀ M', TQ (rel w S W k).1 W (rel w S W k).2 M' → NL M M' → pk M' 142 5 = -1 → Q (.inl none) (mkh X s dh dl t (ra M' p))) : CL 146 [.ref 142, vI (13 - w)] (mkh X s dh dl t (ra M p)) Q := by
  have key : ∀ (m : Nat) (S : St) (k : Int) (M' : Mem), k.toNat = m → 0 ≤ k → (∀ j, 0 ≤ j → j < k → 0 ≤ W j ∧ W j ≤ 3) → 0 ≤ S 69 1 ∧ S 69 1 + k ≤ 300 → TQ S W k M' → NL M M' → pk M' 142 5 = -1 → (∀ M'', TQ (rel w S W k).1 W (rel w S W k).2 M'' → NL M M'' → pk M'' 142 5 = -1 → Q (.inl none) (mkh X s dh dl t (ra M'' p))) → EX 146 (sx 146 0) [.ref 142, vI (13 - w)] [] (mkh X s dh dl t (ra M' p)) Q := by
    intro m
    induction m with
    | zero =>
      intro S k M' e1 e2 e3 e4 e5 e6 e7 e8
      have k0 : k = 0 := by omega
      subst k0
      have g := e5.2.1
      rw [rel_un (by omega), if_neg (by omega)] at e8
      have z := e8 M' e5 e6 e7
      rw [s_146_0]
      simp (disch := omega) only [↓x_al_0, ↓gi_142_34, ↓x_le0, ↓gr_142_33, ↓x_c, ↓x_isub, ↓x_lt, ↓x_il_1, ↓x_gt, ↓x_dup_i, ↓x_dup_r, ↓pi_142_34, ↓c_144, ↓x_go, ↓x_rt, ↓ld_160, ↓n_146, ↓s_146_65, ↓bk_v, ↓bk_n, ↓bk_r, ↓pv_i, ↓pv_r, ↓pv_0, ↓pv_l, wz_pk, wz_ti, wz_wz, vI_wz, wz_id, wz_0, List.length_cons, List.length_nil, ↓reduceIte, true_and, and_true, Int.reduceLE, Int.reduceLT, Int.reduceEq, not_true_eq_false, not_false_eq_true, false_or, or_false, true_or, or_true, ite_not, Int.reduceNeg, Int32.reduceToInt, Nat.reduceAdd, Nat.reduceLeDiff, Nat.reduceLT, Nat.reduceEqDiff, Int.reduceAdd, Int.reduceSub, Int.reduceMul, Nat.zero_le, pk_po_ne, pk_po_eq, pk_po_ix, rI, ne_eq, ra_x, g, Int.le_refl, if_true]
      exact z
    | succ m ih =>
      intro S k M' e1 e2 e3 e4 e5 e6 e7 e8
      have g := e5.2.1
      have c1 : ¬ k ≤ 0 := by omega
      have gt := e5.2.2 (k - 1) (by omega) (by omega)
      have ht := e3 (k - 1) (by omega) (by omega)
      have b1 : k - 1 < 300 := by omega
      have b2 : 0 ≤ k - 1 := by omega
      have w13 : wz (13 - w) = 13 - w := wz_id (by omega) (by omega)
      rw [rel_un e2] at e8
      rw [s_146_0]
      by_cases c : w ≤ W (k - 1)
      · rw [if_pos ⟨by omega, c⟩] at e8
        have cr : cR (W (k - 1)) = 13 - W (k - 1) := by unfold cR; rw [if_neg (by omega)]
        rw [cr] at gt
        have c2 : ¬ 13 - W (k - 1) < 10 := by omega
        have c3 : ¬ 13 - w < 13 - W (k - 1) := by omega
        have st1 : stpC (W (k - 1)) 0 = 13 - W (k - 1) := by
          unfold stpC
          rw [if_neg (by omega)]
          by_cases d1 : W (k - 1) = 3
          · rw [if_pos d1, d1]; rfl
          · rw [if_neg d1]
            by_cases d2 : W (k - 1) = 2
            · rw [if_pos d2, d2]; rfl
            · rw [if_neg d2]; omega
        have st2 : stpV (W (k - 1)) 0 0 = 0 := by unfold stpV; rw [if_pos (by omega)]
        have hb1 : pk (po M' 142 34 (k - 1)) 142 5 = -1 := by rw [pk_po_ix (by decide)]; exact e7
        have hs1 : pk (po M' 142 34 (k - 1)) 142 32 = S 69 1 := by rw [pk_po_ix (by decide)]; exact e5.1.1
        have hq1 : TQ S W (k - 1) (po M' 142 34 (k - 1)) := by
          obtain ⟨⟨a1, a2, a3, a4⟩, a5, a6⟩ := e5
          exact ⟨⟨hs1, fun i u v => by rw [pk_po_ne (by decide)]; exact a2 i u v, fun i u v => by rw [pk_po_ne (by decide)]; exact a3 i u v, fun i u v => by rw [pk_po_ne (by decide)]; exact a4 i u v⟩, by rw [pk_po_eq]; exact wz_id (by omega) (by omega), fun j u v => by rw [pk_po_ne (by decide)]; exact a6 j u (by omega)⟩
        have hq2 := hq1.add (c := W (k - 1)) (b := 0) (v := 0) ⟨by omega, by omega⟩ (by rw [st1]; exact wz_id (by omega) (by omega)) (by rw [st2]; rfl)
        rw [st1, st2] at hq2
        have z := ih (lawAdd S (W (k - 1)) 0 0) (k - 1) _ (by omega) (by omega) (fun j u v => e3 j u (by omega)) ⟨by rw [lawAdd_n]; omega, by rw [lawAdd_n]; omega⟩ hq2 (e6.trans ((((NL.rfl.pw rfl).pw rfl).pw rfl).pw rfl)) (by rw [pk_po_ix (by decide), pk_po_ne (by decide), pk_po_ne (by decide)]; exact hb1) e8
        simp (disch := omega) only [↓x_al_0, ↓gi_142_34, ↓x_le0, ↓gr_142_33, ↓x_c, ↓x_isub, ↓x_lt, ↓x_il_1, ↓x_gt, ↓x_dup_i, ↓x_dup_r, ↓pi_142_34, ↓c_144, ↓x_go, ↓x_rt, ↓ld_160, ↓n_146, ↓s_146_65, ↓bk_v, ↓bk_n, ↓bk_r, ↓pv_i, ↓pv_r, ↓pv_0, ↓pv_l, wz_pk, wz_ti, wz_wz, vI_wz, wz_id, wz_0, List.length_cons, List.length_nil, ↓reduceIte, true_and, and_true, Int.reduceLE, Int.reduceLT, Int.reduceEq, not_true_eq_false, not_false_eq_true, false_or, or_false, true_or, or_true, ite_not, Int.reduceNeg, Int32.reduceToInt, Nat.reduceAdd, Nat.reduceLeDiff, Nat.reduceLT, Nat.reduceEqDiff, Int.reduceAdd, Int.reduceSub, Int.reduceMul, Nat.zero_le, pk_po_ne, pk_po_eq, pk_po_ix, rI, ne_eq, ra_x, ra_n, ra_px, g, c1, if_false, b1, b2, gt, c2, c3, w13, ↓R144 (k := S 69 1) hb1 hs1 (show 0 ≤ S 69 1 ∧ S 69 1 < 300 by omega)]
        exact z
      · rw [if_neg (fun h => c h.2)] at e8
        have z := e8 M' e5 e6 e7
        by_cases c0 : W (k - 1) = 0
        · have cr : cR (W (k - 1)) = -1 := by unfold cR; rw [if_pos c0]
          rw [cr] at gt
          simp (disch := omega) only [↓x_al_0, ↓gi_142_34, ↓x_le0, ↓gr_142_33, ↓x_c, ↓x_isub, ↓x_lt, ↓x_il_1, ↓x_gt, ↓x_dup_i, ↓x_dup_r, ↓pi_142_34, ↓c_144, ↓x_go, ↓x_rt, ↓ld_160, ↓n_146, ↓s_146_65, ↓bk_v, ↓bk_n, ↓bk_r, ↓pv_i, ↓pv_r, ↓pv_0, ↓pv_l, wz_pk, wz_ti, wz_wz, vI_wz, wz_id, wz_0, List.length_cons, List.length_nil, ↓reduceIte, true_and, and_true, Int.reduceLE, Int.reduceLT, Int.reduceEq, not_true_eq_false, not_false_eq_true, false_or, or_false, true_or, or_true, ite_not, Int.reduceNeg, Int32.reduceToInt, Nat.reduceAdd, Nat.reduceLeDiff, Nat.reduceLT, Nat.reduceEqDiff, Int.reduceAdd, Int.reduceSub, Int.reduceMul, Nat.zero_le, pk_po_ne, pk_po_eq, pk_po_ix, rI, ne_eq, ra_x, ra_n, g, c1, if_false, b1, b2, gt, if_true]
          exact z
        · have cr : cR (W (k - 1)) = 13 - W (k - 1) := by unfold cR; rw [if_neg c0]
          rw [cr] at gt
          have c2 : ¬ 13 - W (k - 1) < 10 := by omega
          have c3 : 13 - w < 13 - W (k - 1) := by omega
          simp (disch := omega) only [↓x_al_0, ↓gi_142_34, ↓x_le0, ↓gr_142_33, ↓x_c, ↓x_isub, ↓x_lt, ↓x_il_1, ↓x_gt, ↓x_dup_i, ↓x_dup_r, ↓pi_142_34, ↓c_144, ↓x_go, ↓x_rt, ↓ld_160, ↓n_146, ↓s_146_65, ↓bk_v, ↓bk_n, ↓bk_r, ↓pv_i, ↓pv_r, ↓pv_0, ↓pv_l, wz_pk, wz_ti, wz_wz, vI_wz, wz_id, wz_0, List.length_cons, List.length_nil, ↓reduceIte, true_and, and_true, Int.reduceLE, Int.reduceLT, Int.reduceEq, not_true_eq_false, not_false_eq_true, false_or, or_false, true_or, or_true, ite_not, Int.reduceNeg, Int32.reduceToInt, Nat.reduceAdd, Nat.reduceLeDiff, Nat.reduceLT, Nat.reduceEqDiff, Int.reduceAdd, Int.reduceSub, Int.reduceMul, Nat.zero_le, pk_po_ne, pk_po_eq, pk_po_ix, rI, ne_eq, ra_x, ra_n, g, c1, if_false, b1, b2, gt, c2, c3, w13, if_true]
          exact z
  rw [n_146]
  exact key _ S k M rfl hk hW hs hT NL.rfl hb hQ
theorem R146b {c i y : Int} (hb : BAD M i y) (h : pk M 142 34 = k) (hk : 0 ≤ k ∧ k ≤ 300) (hQ : ∀ M', NL M M' → BAD M' i y → Q (.inl none) (mkh X s dh dl t M')) : CL 146 [.ref 142, vI c] (mkh X s dh dl t M) Q := by
  have key : ∀ (m : Nat) (k : Int) (M' : Mem), k.toNat = m → 0 ≤ k → k ≤ 300 → pk M' 142 34 = k → NL M M' → BAD M' i y → EX 146 (sx 146 0) [.ref 142, vI c] [] (mkh X s dh dl t M') Q := by
    intro m
    induction m with
    | zero =>
      intro k M' e1 e2 e3 e4 e5 e6
      have k0 : k = 0 := by omega
      subst k0
      have z := hQ M' e5 e6
      rw [s_146_0]
      simp (disch := omega) only [↓x_al_0, ↓gi_142_34, ↓x_le0, ↓gr_142_33, ↓x_c, ↓x_isub, ↓x_lt, ↓x_il_1, ↓x_gt, ↓x_dup_i, ↓x_dup_r, ↓pi_142_34, ↓c_144, ↓x_go, ↓x_rt, ↓ld_160, ↓n_146, ↓s_146_65, ↓bk_v, ↓bk_n, ↓bk_r, ↓pv_i, ↓pv_r, ↓pv_0, ↓pv_l, wz_pk, wz_ti, wz_wz, vI_wz, wz_id, wz_0, List.length_cons, List.length_nil, ↓reduceIte, true_and, and_true, Int.reduceLE, Int.reduceLT, Int.reduceEq, not_true_eq_false, not_false_eq_true, false_or, or_false, true_or, or_true, ite_not, Int.reduceNeg, Int32.reduceToInt, Nat.reduceAdd, Nat.reduceLeDiff, Nat.reduceLT, Nat.reduceEqDiff, Int.reduceAdd, Int.reduceSub, Int.reduceMul, Nat.zero_le, pk_po_ne, pk_po_eq, pk_po_ix, rI, ne_eq, e4, Int.le_refl, if_true]
      exact z
    | succ m ih =>
      intro k M' e1 e2 e3 e4 e5 e6
      have c1 : ¬ k ≤ 0 := by omega
      have b1 : k - 1 < 300 := by omega
      have b2 : 0 ≤ k - 1 := by omega
      have z := hQ M' e5 e6
      have hb1 : BAD (po M' 142 34 (k - 1)) i y := ⟨by rw [pk_po_ix (by decide)]; exact e6.1, by rw [pk_po_ix (by decide)]; exact e6.2.1, e6.2.2⟩
      have hb2 : ¬ pk (po M' 142 34 (k - 1)) 142 5 = -1 := by rw [hb1.1]; exact hb1.2.2
      have z2 := ih (k - 1) (po M' 142 34 (k - 1)) (by omega) (by omega) (by omega) (by rw [pk_po_eq]; exact wz_id (by omega) (by omega)) (e5.pw rfl) hb1
      rw [s_146_0]
      simp (disch := omega) only [↓x_al_0, ↓gi_142_34, ↓x_le0, ↓gr_142_33, ↓x_c, ↓x_isub, ↓x_lt, ↓x_il_1, ↓x_gt, ↓x_dup_i, ↓x_dup_r, ↓pi_142_34, ↓c_144, ↓x_go, ↓x_rt, ↓ld_160, ↓n_146, ↓s_146_65, ↓bk_v, ↓bk_n, ↓bk_r, ↓pv_i, ↓pv_r, ↓pv_0, ↓pv_l, wz_pk, wz_ti, wz_wz, vI_wz, wz_id, wz_0, List.length_cons, List.length_nil, ↓reduceIte, true_and, and_true, Int.reduceLE, Int.reduceLT, Int.reduceEq, not_true_eq_false, not_false_eq_true, false_or, or_false, true_or, or_true, ite_not, Int.reduceNeg, Int32.reduceToInt, Nat.reduceAdd, Nat.reduceLeDiff, Nat.reduceLT, Nat.reduceEqDiff, Int.reduceAdd, Int.reduceSub, Int.reduceMul, Nat.zero_le, pk_po_ne, pk_po_eq, pk_po_ix, rI, ne_eq, e4, c1, if_false, b1, b2, ↓R144b hb2]
      by_cases d1 : pk M' 160 (k - 1) < 10
      · rw [if_pos d1]
        exact z
      · rw [if_neg d1]
        by_cases d2 : wz c < pk M' 160 (k - 1)
        · rw [if_pos d2]
          exact z
        · rw [if_neg d2]
          exact z2
  rw [n_146]
  exact key _ k M rfl hk.1 hk.2 h NL.rfl hb
theorem R145b (hb : ¬ pk M 142 5 = -1) : CL 145 [.ref 142] (mkh X s dh dl t M) Q ↔ Q (rI 0) (mkh X s dh dl t M) := by
  simp only [↓x_al_0, ↓c_123, ↓x_ne0, ↓x_c, ↓x_ir, ↓c_125, ↓x_is_1, ↓x_il_1, ↓x_eq, ↓gi_142_4, ↓c_124, ↓x_dup_i, ↓x_dup_r, ↓x_iadd, ↓pi_142_4, ↓c_131, ↓x_is_2, ↓x_ne, ↓x_il_2, ↓x_isub, ↓x_go, ↓n_145, ↓s_145_0, ↓s_145_9, ↓s_145_37, ↓s_145_68, ↓s_145_69, ↓bk_v, ↓bk_n, ↓bk_r, ↓pv_i, ↓pv_r, ↓pv_0, ↓pv_l, wz_pk, wz_ti, wz_wz, vI_wz, wz_id, wz_0, List.length_cons, List.length_nil, ↓reduceIte, true_and, and_true, Int.reduceLE, Int.reduceLT, Int.reduceEq, not_true_eq_false, not_false_eq_true, false_or, or_false, true_or, or_true, ite_not, Int.reduceNeg, Int32.reduceToInt, Nat.reduceAdd, Nat.reduceLeDiff, Nat.reduceLT, Nat.reduceEqDiff, Int.reduceAdd, Int.reduceSub, Int.reduceMul, Nat.zero_le, pk_po_ne, pk_po_eq, pk_po_ix, rI, ne_eq, ↓R123, hb, decide_false, bi_wz, bi_0, if_true]
end R83
