/-! THE REFERENCE: a test -/
def nb (W : Int → Int) : Nat → Int
  | 0 => 0
  | m + 1 => nb W m + if W m = 0 then 1 else 0
theorem nb_rng {W : Int → Int} : ∀ m : Nat, 0 ≤ nb W m ∧ nb W m ≤ m := by
  intro m
  induction m with
  | zero => simp [nb]
  | succ m ih => simp only [nb]; split <;> omega
theorem nb_congr {W V : Int → Int} : ∀ m : Nat, (∀ j : Nat, j < m → W j = V j) → nb W m = nb V m := by
  intro m
  induction m with
  | zero => intro _; rfl
  | succ m ih => intro h; simp only [nb]; rw [ih (fun j hj => h j (by omega)), h m (by omega)]
theorem nb_upi {W : Int → Int} {k c : Int} (hk : 0 ≤ k) : nb (upi W k c) (k + 1).toNat = nb W k.toNat + if c = 0 then 1 else 0 := by
  rw [show (k + 1).toNat = k.toNat + 1 by omega]
  simp only [nb]
  rw [nb_congr k.toNat (V := W) (fun j hj => by unfold upi; rw [if_neg (by omega)])]
  rw [show upi W k c (k.toNat : Int) = c by unfold upi; rw [if_pos (by omega)]]
theorem nb_rel {W : Int → Int} {w : Int} (hw : 1 ≤ w) : ∀ (m : Nat) (S : St) (k : Int), k.toNat = m → 0 ≤ k → nb W (rel w S W k).2.toNat = nb W k.toNat ∧ ((rel w S W k).2 = 0 ∨ W ((rel w S W k).2 - 1) < w) := by
  intro m
  induction m with
  | zero =>
    intro S k h1 h2
    rw [rel_un h2, if_neg (by omega)]
    exact ⟨rfl, Or.inl (by simp only; omega)⟩
  | succ m ih =>
    intro S k h1 h2
    rw [rel_un h2]
    by_cases c : 0 < k ∧ w ≤ W (k - 1)
    · rw [if_pos c]
      obtain ⟨a, b⟩ := ih (lawAdd S (W (k - 1)) 0 0) (k - 1) (by omega) (by omega)
      refine ⟨?_, b⟩
      rw [a, show k.toNat = (k - 1).toNat + 1 by omega]
      simp only [nb]
      rw [show ((k - 1).toNat : Int) = k - 1 by omega, if_neg (by omega)]
      omega
    · rw [if_neg c]
      refine ⟨rfl, ?_⟩
      simp only
      omega
theorem nb_1 {W : Int → Int} {S : St} {k : Int} (hk : 0 ≤ k) (hW : ∀ j, 0 ≤ j → j < k → 0 ≤ W j ∧ W j ≤ 3) : ((rel 1 S W k).2 = 0 ↔ nb W k.toNat = 0) ∧ (¬ (rel 1 S W k).2 = 0 → nb W ((rel 1 S W k).2 - 1).toNat = nb W k.toNat - 1) := by
  obtain ⟨a, b⟩ := nb_rel (W := W) (w := 1) (by decide) _ S k rfl hk
  have r := rel_rng (w := 1) (S := S) (W := W) hk
  by_cases c : (rel 1 S W k).2 = 0
  · refine ⟨⟨fun _ => ?_, fun _ => c⟩, fun h => absurd c h⟩
    rw [← a, c]
    rfl
  · have hw := hW ((rel 1 S W k).2 - 1) (by omega) (by omega)
    have e : nb W (rel 1 S W k).2.toNat = nb W ((rel 1 S W k).2 - 1).toNat + 1 := by
      rw [show (rel 1 S W k).2.toNat = ((rel 1 S W k).2 - 1).toNat + 1 by omega]
      simp only [nb]
      rw [show (((rel 1 S W k).2 - 1).toNat : Int) = (rel 1 S W k).2 - 1 by omega, if_pos (by omega)]
    have := nb_rng (W := W) ((rel 1 S W k).2 - 1).toNat
    exact ⟨⟨fun h => absurd h c, fun h => by omega⟩, fun _ => by omega⟩
section R85
variable {Q : MOut → MHp → Prop} {X : Nat × (Nat → Int32)} {s : Bool × Bool} {dh dl t : Nat} {M : Mem} {S : St} {p n x k : Int} {W : Int → Int}
theorem TQ.push {c : Int} (h : TQ S W k M) (hk : 0 ≤ k ∧ k < 300) (hc : 0 ≤ c ∧ c ≤ 3) : TQ S (upi W k c) (k + 1) (po (po M 160 k (cR c)) 142 34 (k + 1)) := by
  obtain ⟨⟨a1, a2, a3, a4⟩, a5, a6⟩ := h
  have wc : wz (cR c) = cR c := by unfold cR; split <;> exact wz_id (by omega) (by omega)
  refine ⟨⟨?_, ?_, ?_, ?_⟩, ?_, ?_⟩
  · rw [pk_po_ix (by decide), pk_po_ne (by decide)]; exact a1
  · intro i u v; rw [pk_po_ne (by decide), pk_po_ne (by decide)]; exact a2 i u v
  · intro i u v; rw [pk_po_ne (by decide), pk_po_ne (by decide)]; exact a3 i u v
  · intro i u v; rw [pk_po_ne (by decide), pk_po_ne (by decide)]; exact a4 i u v
  · rw [pk_po_eq]; exact wz_id (by omega) (by omega)
  · intro j u v
    rw [pk_po_ne (by decide), pk_po]
    unfold upi
    by_cases d : j = k
    · rw [if_pos ⟨rfl, d⟩, if_pos d]; exact wc
    · rw [if_neg (fun h => d h.2), if_neg d]; exact a6 j u (by omega)
theorem TQ.pop (h : TQ S W k M) (hk : 0 < k ∧ k ≤ 300) : TQ S W (k - 1) (po M 142 34 (k - 1)) := by
  obtain ⟨⟨a1, a2, a3, a4⟩, a5, a6⟩ := h
  exact ⟨⟨by rw [pk_po_ix (by decide)]; exact a1, fun i u v => by rw [pk_po_ne (by decide)]; exact a2 i u v, fun i u v => by rw [pk_po_ne (by decide)]; exact a3 i u v, fun i u v => by rw [pk_po_ne (by decide)]; exact a4 i u v⟩, by rw [pk_po_eq]; exact wz_id (by omega) (by omega), fun j u v => by rw [pk_po_ne (by decide)]; exact a6 j u (by omega)⟩
theorem hjl : ¬ wy (hj 44) = wy (hj 45) := by decide +kernel
theorem R148l {M0 : Mem} {S0 : St} (R : LR) (h3 : n ≤ 300)
    (hok : ∀ q S' W' M', R = (0, q + 1, 2, S', W', 0) → RNl S' M' → lag S0 S' → NL M0 M' → pk M' 142 5 = -1 → 0 ≤ q → q < n → S0 1 q = 59 → sk S0 n q = q → Q (.inl none) (mkh X s dh dl t (ra M' q)))
    (hbad : ∀ i y j S' W' k' M', ¬ i = 0 → R = (i, y, j, S', W', k') → lag S0 S' → NL M0 M' → BAD M' i y → Q (.inl none) (mkh X s dh dl t M'))
    (hsig : ∀ y j S' W' k' M', R = (1, y, j, S', W', k') → lag S0 S' → NL M0 M' → pk M' 142 5 = -1 → 0 ≤ y → y ≤ n → sk S0 n y = y → ¬ chr S0 n y = 59 → Q (.inl none) (mkh X s dh dl t (ra M' y))) :
    ∀ m : Nat, (∀ (p : Int) (S : St) (W : Int → Int) (k : Int) (M : Mem) (a b : Value), lbn S W k p n → 301 ≤ p + m → TR S n M → TQ S W k M → pk M 142 5 = -1 → lag S0 S → NL M0 M → l_test n m 0 p S W k = R → EX 148 (sx 148 20) [.ref 142, vI (nb W k.toNat), vI 1, a, b] [] (mkh X s dh dl t (ra M p)) Q)
      ∧ (∀ (p : Int) (S : St) (W : Int → Int) (k : Int) (M : Mem) (a b : Value), lbn S W k p n → 301 ≤ p + m → TR S n M → TQ (rel 3 S W k).1 W (rel 3 S W k).2 M → pk M 142 5 = -1 → lag S0 S → NL M0 M → l_test n m 1 p S W k = R → EX 148 (sx 148 96) [.ref 142, vI (nb W k.toNat), vI 1, a, b] [] (mkh X s dh dl t (ra M p)) Q) := by
  intro m
  induction m with
  | zero =>
    constructor
    · intro p S W k M a b hl hf
      obtain ⟨l1, l2, l3, l4, l5⟩ := hl
      omega
    · intro p S W k M a b hl hf
      obtain ⟨l1, l2, l3, l4, l5⟩ := hl
      omega
  | succ m ih =>
    obtain ⟨ihA, ihB⟩ := ih
    constructor
    · intro p S W k M a b hl hf hT hq hb hL hN hR
      have hl' := hl
      obtain ⟨l1, l2, l3, l4, l5⟩ := hl'
      have p0 : 0 ≤ p := by omega
      have hs := sk_rng (S := S) l4
      have hwe := we_rng (S := S) hs.2
      have sq := sk_sk (S := S) (n := n) (p := p)
      have nr := nb_rng (W := W) k.toNat
      have n6 := hT.2.2
      have hfi : ∀ y, pk (ra M y) 142 5 = -1 := fun y => by rw [ra_x (by decide)]; exact hb
      have wch : wz (chr S n (sk S n p)) = chr S n (sk S n p) := by
        unfold chr
        by_cases c : sk S n p < n
        · rw [if_pos c]
          exact wz_of (hT.1 _ (by omega) c)
        · rw [if_neg c]; exact wz_0
      have r125b : ∀ (Q : MOut → MHp → Prop), (CL 125 [.ref 142] (mkh X s dh dl t (ra M (sk S n p))) Q ↔ Q (rI (chr S n (sk S n p))) (mkh X s dh dl t (ra M (sk S n p)))) := fun Q => by
        have := R125 (Q := Q) (X := X) (s := s) (dh := dh) (dl := dl) (t := t) hT (show 0 ≤ sk S n p by omega) hs.2
        rw [sq] at this
        exact this
      have r128b : ∀ (Q : MOut → MHp → Prop), (CL 128 [.ref 142] (mkh X s dh dl t (ra M (sk S n p))) Q ↔ Q (.inl (some (vJ (wrd S (sk S n p) (we S n (sk S n p)))))) (mkh X s dh dl t (ra M (sk S n p)))) := fun Q => by
        have := R128 (Q := Q) (X := X) (s := s) (dh := dh) (dl := dl) (t := t) hT (show 0 ≤ sk S n p by omega) hs.2
        rw [sq] at this
        exact this
      have v34 := wrd_j (S := S) (n := n) (q := sk S n p) 34 10 wl.2.2.2.2.2.2.2.2.2.2.2.2.1 (by decide) hs.2
      simp only [l_test, if_true] at hR
      rw [s_148_20]
      by_cases c1 : sk S n p < n ∧ S 1 (sk S n p) = 91
      · have hc : chr S n (sk S n p) = 91 := by unfold chr; rw [if_pos c1.1]; exact c1.2
        have la : l_ahead S W k n p = (0, sk S n p + 1, 0, S, upi W k 0, k + 1) := by rw [l_ahead, if_pos c1]
        obtain ⟨g1, g2, g3, g4⟩ := lb_ahead hl la
        rw [la] at hR
        simp only [Int.reduceEq, not_false_eq_true, and_self, if_true] at hR
        have hb1 : pk (po (po M 160 k (-1)) 142 34 (k + 1)) 142 5 = -1 := by rw [pk_po_ix (by decide), pk_po_ne (by decide)]; exact hb
        have nn : NL M (po (po M 160 k (-1)) 142 34 (k + 1)) := (NL.rfl.pw rfl).pw rfl
        have z := ihA (sk S n p + 1) S (upi W k 0) (k + 1) (po (po M 160 k (-1)) 142 34 (k + 1)) a b g1 (by omega) (hT.nl nn) (hq.push (c := 0) ⟨l2, by omega⟩ (by decide)) hb1 hL (hN.trans nn) hR
        rw [nb_upi l2, if_pos rfl] at z
        simp (disch := omega) only [↓x_al_0, ↓x_c, ↓pi_142_34, ↓x_is_1, ↓x_is_2, ↓c_123, ↓x_eq0, ↓x_il_2, ↓c_125, ↓x_eq, ↓c_128, ↓x_str, ↓c_129, ↓x_lcw0, ↓x_lcw1, ↓x_ne0, ↓x_ne, ↓x_dup_i, ↓x_dup_r, ↓gi_142_4, ↓x_iadd, ↓pi_142_4, ↓x_inc_1, ↓c_147, ↓x_go, ↓c_130, ↓c_149, ↓c_146, ↓x_il_1, ↓x_le0, ↓gi_142_34, ↓x_isub, ↓x_rt, ↓x_ls_3, ↓x_ll_3, ↓c_124, ↓n_148, ↓s_148_0, ↓s_148_43, ↓s_148_73, ↓s_148_154, ↓s_148_162, ↓s_148_189, ↓s_148_193, ↓s_148_194, ↓s_148_202, ↓s_148_223, ↓s_148_225, ↓s_148_245, ↓s_148_247, ↓s_148_253, ↓s_148_261, ↓s_148_274, ↓bk_v, ↓bk_n, ↓bk_r, ↓pv_i, ↓pv_r, ↓pv_0, ↓pv_l, wz_pk, wz_ti, wz_wz, vI_wz, wz_id, wz_0, List.length_cons, List.length_nil, ↓reduceIte, true_and, and_true, Int.reduceLE, Int.reduceLT, Int.reduceEq, not_true_eq_false, not_false_eq_true, false_or, or_false, true_or, or_true, ite_not, Int.reduceNeg, Int32.reduceToInt, Nat.reduceAdd, Nat.reduceLeDiff, Nat.reduceLT, Nat.reduceEqDiff, Int.reduceAdd, Int.reduceSub, Int.reduceMul, Nat.zero_le, pk_po_ne, pk_po_eq, pk_po_ix, rI, ne_eq, ↓R125 hT p0 l4, hc, if_true, ↓r125b, Int.reduceEq, if_false, ra_4, ra_p, ↓R147 (k := k) hq.2.1 (show 0 ≤ k ∧ k < 300 by omega)]
        exact z
      · have hc : ¬ chr S n (sk S n p) = 91 := by
          unfold chr
          by_cases c : sk S n p < n
          · rw [if_pos c]; exact fun e => c1 ⟨c, e⟩
          · rw [if_neg c]; decide
        by_cases c2 : isW S (sk S n p) (we S n (sk S n p)) (P_txt 10) = true
        · have la : l_ahead S W k n p = (0, we S n (sk S n p), 0, S, upi W k 3, k + 1) := by rw [l_ahead, if_neg c1, if_pos c2]
          obtain ⟨g1, g2, g3, g4⟩ := lb_ahead hl la
          rw [la] at hR
          simp only [Int.reduceEq, not_false_eq_true, and_self, if_true] at hR
          have hb1 : pk (po (po M 160 k 10) 142 34 (k + 1)) 142 5 = -1 := by rw [pk_po_ix (by decide), pk_po_ne (by decide)]; exact hb
          have nn : NL M (po (po M 160 k 10) 142 34 (k + 1)) := (NL.rfl.pw rfl).pw rfl
          have z := ihA (we S n (sk S n p)) S (upi W k 3) (k + 1) (po (po M 160 k 10) 142 34 (k + 1)) a b g1 (by omega) (hT.nl nn) (hq.push (c := 3) ⟨l2, by omega⟩ (by decide)) hb1 hL (hN.trans nn) hR
          rw [nb_upi l2, if_neg (by decide), Int.add_zero] at z
          simp (disch := omega) only [↓x_al_0, ↓x_c, ↓pi_142_34, ↓x_is_1, ↓x_is_2, ↓c_123, ↓x_eq0, ↓x_il_2, ↓c_125, ↓x_eq, ↓c_128, ↓x_str, ↓c_129, ↓x_lcw0, ↓x_lcw1, ↓x_ne0, ↓x_ne, ↓x_dup_i, ↓x_dup_r, ↓gi_142_4, ↓x_iadd, ↓pi_142_4, ↓x_inc_1, ↓c_147, ↓x_go, ↓c_130, ↓c_149, ↓c_146, ↓x_il_1, ↓x_le0, ↓gi_142_34, ↓x_isub, ↓x_rt, ↓x_ls_3, ↓x_ll_3, ↓c_124, ↓n_148, ↓s_148_0, ↓s_148_43, ↓s_148_73, ↓s_148_154, ↓s_148_162, ↓s_148_189, ↓s_148_193, ↓s_148_194, ↓s_148_202, ↓s_148_223, ↓s_148_225, ↓s_148_245, ↓s_148_247, ↓s_148_253, ↓s_148_261, ↓s_148_274, ↓bk_v, ↓bk_n, ↓bk_r, ↓pv_i, ↓pv_r, ↓pv_0, ↓pv_l, wz_pk, wz_ti, wz_wz, vI_wz, wz_id, wz_0, List.length_cons, List.length_nil, ↓reduceIte, true_and, and_true, Int.reduceLE, Int.reduceLT, Int.reduceEq, not_true_eq_false, not_false_eq_true, false_or, or_false, true_or, or_true, ite_not, Int.reduceNeg, Int32.reduceToInt, Nat.reduceAdd, Nat.reduceLeDiff, Nat.reduceLT, Nat.reduceEqDiff, Int.reduceAdd, Int.reduceSub, Int.reduceMul, Nat.zero_le, pk_po_ne, pk_po_eq, pk_po_ix, rI, ne_eq, ↓R125 hT p0 l4, hc, wch, if_true, if_false, ↓r125b, ↓r128b, ↓R129j (j := 34) (by decide) (by decide), v34, c2, ↓R130 hT (show 0 ≤ sk S n p by omega) hs.2, ↓R147 (k := k) hq.2.1 (show 0 ≤ k ∧ k < 300 by omega)]
          exact z
        · -- an atom
          have bad : ∀ i y j S' W' k' M', ¬ i = 0 → R = (i, y, j, S', W', k') → lag S S' → NL M M' → BAD M' i y → pk M' 142 34 = k → CL 146 [.ref 142, vI 10] (mkh X s dh dl t M') (bk 148 93 (sx 148 96) [.ref 142, vI (nb W k.toNat), vI 1, a, b] [] Q) := by
            intro i y j S' W' k' M' hi hRr hlg hnl hbd hk34
            refine R146b hbd hk34 ⟨l2, by omega⟩ ?_
            intro M2 n2 b2
            have z := hbad i y j S' W' k' M2 hi hRr (hL.trans hlg) ((hN.trans hnl).trans n2) b2
            have hb2 : ¬ pk M2 142 5 = -1 := by rw [b2.1]; exact b2.2.2
            rw [bk_n, s_148_96]
            simp (disch := omega) only [↓x_al_0, ↓x_c, ↓pi_142_34, ↓x_is_1, ↓x_is_2, ↓c_123, ↓x_eq0, ↓x_il_2, ↓c_125, ↓x_eq, ↓c_128, ↓x_str, ↓c_129, ↓x_lcw0, ↓x_lcw1, ↓x_ne0, ↓x_ne, ↓x_dup_i, ↓x_dup_r, ↓gi_142_4, ↓x_iadd, ↓pi_142_4, ↓x_inc_1, ↓c_147, ↓x_go, ↓c_130, ↓c_149, ↓c_146, ↓x_il_1, ↓x_le0, ↓gi_142_34, ↓x_isub, ↓x_rt, ↓x_ls_3, ↓x_ll_3, ↓c_124, ↓n_148, ↓s_148_0, ↓s_148_43, ↓s_148_73, ↓s_148_86, ↓s_148_154, ↓s_148_162, ↓s_148_189, ↓s_148_193, ↓s_148_194, ↓s_148_202, ↓s_148_223, ↓s_148_225, ↓s_148_245, ↓s_148_247, ↓s_148_253, ↓s_148_261, ↓s_148_274, ↓bk_v, ↓bk_n, ↓bk_r, ↓pv_i, ↓pv_r, ↓pv_0, ↓pv_l, wz_pk, wz_ti, wz_wz, vI_wz, wz_id, wz_0, List.length_cons, List.length_nil, ↓reduceIte, true_and, and_true, Int.reduceLE, Int.reduceLT, Int.reduceEq, not_true_eq_false, not_false_eq_true, false_or, or_false, true_or, or_true, ite_not, Int.reduceNeg, Int32.reduceToInt, Nat.reduceAdd, Nat.reduceLeDiff, Nat.reduceLT, Nat.reduceEqDiff, Int.reduceAdd, Int.reduceSub, Int.reduceMul, Nat.zero_le, pk_po_ne, pk_po_eq, pk_po_ix, rI, ne_eq, ↓R123, hb2, decide_false, bi_wz, bi_0, if_true]
            exact z
          simp (disch := omega) only [↓x_al_0, ↓x_c, ↓pi_142_34, ↓x_is_1, ↓x_is_2, ↓c_123, ↓x_eq0, ↓x_il_2, ↓c_125, ↓x_eq, ↓c_128, ↓x_str, ↓c_129, ↓x_lcw0, ↓x_lcw1, ↓x_ne0, ↓x_ne, ↓x_dup_i, ↓x_dup_r, ↓gi_142_4, ↓x_iadd, ↓pi_142_4, ↓x_inc_1, ↓c_147, ↓x_go, ↓c_130, ↓c_149, ↓c_146, ↓x_il_1, ↓x_le0, ↓gi_142_34, ↓x_isub, ↓x_rt, ↓x_ls_3, ↓x_ll_3, ↓c_124, ↓n_148, ↓s_148_0, ↓s_148_43, ↓s_148_73, ↓s_148_86, ↓s_148_154, ↓s_148_162, ↓s_148_189, ↓s_148_193, ↓s_148_194, ↓s_148_202, ↓s_148_223, ↓s_148_225, ↓s_148_245, ↓s_148_247, ↓s_148_253, ↓s_148_261, ↓s_148_274, ↓bk_v, ↓bk_n, ↓bk_r, ↓pv_i, ↓pv_r, ↓pv_0, ↓pv_l, wz_pk, wz_ti, wz_wz, vI_wz, wz_id, wz_0, List.length_cons, List.length_nil, ↓reduceIte, true_and, and_true, Int.reduceLE, Int.reduceLT, Int.reduceEq, not_true_eq_false, not_false_eq_true, false_or, or_false, true_or, or_true, ite_not, Int.reduceNeg, Int32.reduceToInt, Nat.reduceAdd, Nat.reduceLeDiff, Nat.reduceLT, Nat.reduceEqDiff, Int.reduceAdd, Int.reduceSub, Int.reduceMul, Nat.zero_le, pk_po_ne, pk_po_eq, pk_po_ix, rI, ne_eq, ↓R125 hT p0 l4, hc, wch, if_true, if_false, ↓r125b, ↓r128b, ↓R129j (j := 34) (by decide) (by decide), v34, c2]
          refine R149 hT (by omega) hs.2 h3 hb hq ⟨l1, l2, by omega⟩ ?_ ?_ ?_
          · rw [sq]
            intro hsu
            have la : l_ahead S W k n p = (1, sk S n p, 0, S, W, k) := by rw [l_ahead, if_neg c1, if_neg c2, if_pos hsu]
            rw [la] at hR
            simp only [Int.reduceEq, false_and, if_false] at hR
            have x1 : wz (sk S n p) = sk S n p := wz_id (by omega) (by omega)
            have x2 : ¬ sk S n p = -1 := by omega
            have z := bad 1 (sk S n p) 0 S W k (ra (po (po M 142 5 (sk S n p)) 142 6 1) (sk S n p)) (by decide) hR.symm lag.rfl (((NL.rfl.pw rfl).pw rfl).ra) ⟨by simp [pk_po, pk_flm, ra]; exact x1, by simp [pk_po, pk_flm, ra]; rfl, x2⟩ (by rw [ra_x (by decide), pk_po_ix (by decide), pk_po_ix (by decide)]; exact hq.2.1)
            simp (disch := omega) only [↓x_al_0, ↓x_c, ↓pi_142_34, ↓x_is_1, ↓x_is_2, ↓c_123, ↓x_eq0, ↓x_il_2, ↓c_125, ↓x_eq, ↓c_128, ↓x_str, ↓c_129, ↓x_lcw0, ↓x_lcw1, ↓x_ne0, ↓x_ne, ↓x_dup_i, ↓x_dup_r, ↓gi_142_4, ↓x_iadd, ↓pi_142_4, ↓x_inc_1, ↓c_147, ↓x_go, ↓c_130, ↓c_149, ↓c_146, ↓x_il_1, ↓x_le0, ↓gi_142_34, ↓x_isub, ↓x_rt, ↓x_ls_3, ↓x_ll_3, ↓c_124, ↓n_148, ↓s_148_0, ↓s_148_43, ↓s_148_73, ↓s_148_86, ↓s_148_154, ↓s_148_162, ↓s_148_189, ↓s_148_193, ↓s_148_194, ↓s_148_202, ↓s_148_223, ↓s_148_225, ↓s_148_245, ↓s_148_247, ↓s_148_253, ↓s_148_261, ↓s_148_274, ↓bk_v, ↓bk_n, ↓bk_r, ↓pv_i, ↓pv_r, ↓pv_0, ↓pv_l, wz_pk, wz_ti, wz_wz, vI_wz, wz_id, wz_0, List.length_cons, List.length_nil, ↓reduceIte, true_and, and_true, Int.reduceLE, Int.reduceLT, Int.reduceEq, not_true_eq_false, not_false_eq_true, false_or, or_false, true_or, or_true, ite_not, Int.reduceNeg, Int32.reduceToInt, Nat.reduceAdd, Nat.reduceLeDiff, Nat.reduceLT, Nat.reduceEqDiff, Int.reduceAdd, Int.reduceSub, Int.reduceMul, Nat.zero_le, pk_po_ne, pk_po_eq, pk_po_ix, rI, ne_eq]
            exact z
          · rw [sq]
            intro y S' M' hsu hla hq' hnl hb'
            have la : l_ahead S W k n p = (0, y, 1, S', W, k) := by rw [l_ahead, if_neg c1, if_neg c2, if_neg hsu]; exact hla
            obtain ⟨g1, g2, g3, g4⟩ := lb_ahead hl la
            rw [la] at hR
            simp only [Int.reduceEq, not_false_eq_true, and_self, if_true] at hR
            have g1' := g1
            obtain ⟨m1, m2, m3, m4, m5⟩ := g1'
            have fin : CL 146 [.ref 142, vI (13 - 3)] (mkh X s dh dl t (ra M' y)) (bk 148 93 (sx 148 96) [.ref 142, vI (nb W k.toNat), vI 1, a, b] [] Q) := by
              refine R146 (w := 3) (by decide) hb' m5 m2 ⟨m1, by omega⟩ hq' ?_
              intro M2 q2 n2 b2
              rw [bk_n]
              exact ihB y S' W k M2 a b g1 (by omega) (((hT.nl hnl).nl n2).st (g4.1 1 (by omega))) q2 b2 (hL.trans g4) ((hN.trans hnl).trans n2) hR
            simp (disch := omega) only [↓x_al_0, ↓x_c, ↓pi_142_34, ↓x_is_1, ↓x_is_2, ↓c_123, ↓x_eq0, ↓x_il_2, ↓c_125, ↓x_eq, ↓c_128, ↓x_str, ↓c_129, ↓x_lcw0, ↓x_lcw1, ↓x_ne0, ↓x_ne, ↓x_dup_i, ↓x_dup_r, ↓gi_142_4, ↓x_iadd, ↓pi_142_4, ↓x_inc_1, ↓c_147, ↓x_go, ↓c_130, ↓c_149, ↓c_146, ↓x_il_1, ↓x_le0, ↓gi_142_34, ↓x_isub, ↓x_rt, ↓x_ls_3, ↓x_ll_3, ↓c_124, ↓n_148, ↓s_148_0, ↓s_148_43, ↓s_148_73, ↓s_148_86, ↓s_148_154, ↓s_148_162, ↓s_148_189, ↓s_148_193, ↓s_148_194, ↓s_148_202, ↓s_148_223, ↓s_148_225, ↓s_148_245, ↓s_148_247, ↓s_148_253, ↓s_148_261, ↓s_148_274, ↓bk_v, ↓bk_n, ↓bk_r, ↓pv_i, ↓pv_r, ↓pv_0, ↓pv_l, wz_pk, wz_ti, wz_wz, vI_wz, wz_id, wz_0, List.length_cons, List.length_nil, ↓reduceIte, true_and, and_true, Int.reduceLE, Int.reduceLT, Int.reduceEq, not_true_eq_false, not_false_eq_true, false_or, or_false, true_or, or_true, ite_not, Int.reduceNeg, Int32.reduceToInt, Nat.reduceAdd, Nat.reduceLeDiff, Nat.reduceLT, Nat.reduceEqDiff, Int.reduceAdd, Int.reduceSub, Int.reduceMul, Nat.zero_le, pk_po_ne, pk_po_eq, pk_po_ix, rI, ne_eq]
            exact fin
          · rw [sq]
            intro i y S' M' hsu hi hla hnl hbd hk34
            have la : l_ahead S W k n p = (i, y, 1, S', W, k) := by rw [l_ahead, if_neg c1, if_neg c2, if_neg hsu]; exact hla
            rw [la] at hR
            simp only [hi, false_and, if_false] at hR
            have hlg : lag S S' := by
              unfold l_atom l_num at hla
              split at hla
              · split at hla
                · simp only [Prod.mk.injEq] at hla; obtain ⟨-, -, -, rfl, -⟩ := hla; exact lag.rfl.add
                · simp only [Prod.mk.injEq] at hla; obtain ⟨-, -, -, rfl, -⟩ := hla; exact lag.rfl.add
              · split at hla
                · split at hla
                  · split at hla
                    · simp only [Prod.mk.injEq] at hla; obtain ⟨-, -, -, rfl, -⟩ := hla; exact lag.rfl.add
                    · simp only [Prod.mk.injEq] at hla; obtain ⟨-, -, -, rfl, -⟩ := hla; exact lag.rfl.add
                  · split at hla
                    · split at hla
                      · simp only [Prod.mk.injEq] at hla; obtain ⟨-, -, -, rfl, -⟩ := hla; exact lag.rfl.add
                      · simp only [Prod.mk.injEq] at hla; obtain ⟨-, -, -, rfl, -⟩ := hla; exact lag.rfl.add
                    · simp only [Prod.mk.injEq] at hla; obtain ⟨-, -, -, rfl, -⟩ := hla; exact lag.rfl
                · simp only [Prod.mk.injEq] at hla; obtain ⟨-, -, -, rfl, -⟩ := hla; exact lag.rfl.add
            have z := bad i y 1 S' W k M' hi hR.symm hlg hnl hbd hk34
            simp (disch := omega) only [↓x_al_0, ↓x_c, ↓pi_142_34, ↓x_is_1, ↓x_is_2, ↓c_123, ↓x_eq0, ↓x_il_2, ↓c_125, ↓x_eq, ↓c_128, ↓x_str, ↓c_129, ↓x_lcw0, ↓x_lcw1, ↓x_ne0, ↓x_ne, ↓x_dup_i, ↓x_dup_r, ↓gi_142_4, ↓x_iadd, ↓pi_142_4, ↓x_inc_1, ↓c_147, ↓x_go, ↓c_130, ↓c_149, ↓c_146, ↓x_il_1, ↓x_le0, ↓gi_142_34, ↓x_isub, ↓x_rt, ↓x_ls_3, ↓x_ll_3, ↓c_124, ↓n_148, ↓s_148_0, ↓s_148_43, ↓s_148_73, ↓s_148_86, ↓s_148_154, ↓s_148_162, ↓s_148_189, ↓s_148_193, ↓s_148_194, ↓s_148_202, ↓s_148_223, ↓s_148_225, ↓s_148_245, ↓s_148_247, ↓s_148_253, ↓s_148_261, ↓s_148_274, ↓bk_v, ↓bk_n, ↓bk_r, ↓pv_i, ↓pv_r, ↓pv_0, ↓pv_l, wz_pk, wz_ti, wz_wz, vI_wz, wz_id, wz_0, List.length_cons, List.length_nil, ↓reduceIte, true_and, and_true, Int.reduceLE, Int.reduceLT, Int.reduceEq, not_true_eq_false, not_false_eq_true, false_or, or_false, true_or, or_true, ite_not, Int.reduceNeg, Int32.reduceToInt, Nat.reduceAdd, Nat.reduceLeDiff, Nat.reduceLT, Nat.reduceEqDiff, Int.reduceAdd, Int.reduceSub, Int.reduceMul, Nat.zero_le, pk_po_ne, pk_po_eq, pk_po_ix, rI, ne_eq]
            exact z
    · intro p S W k M a b hl hf hT hq hb hL hN hR
      have hl' := hl
      obtain ⟨l1, l2, l3, l4, l5⟩ := hl'
      have p0 : 0 ≤ p := by omega
      have hs := sk_rng (S := S) l4
      have hwe := we_rng (S := S) hs.2
      have sq := sk_sk (S := S) (n := n) (p := p)
      have nr := nb_rng (W := W) k.toNat
      have n6 := hT.2.2
      have rr3 := rel_rng (w := 3) (S := S) (W := W) l2
      have rr1 := rel_rng (w := 1) (S := S) (W := W) l2
      have rr2 := rel_rng (w := 2) (S := S) (W := W) l2
      have r31 := rel_rel (W := W) (w := 1) (by decide) _ S k rfl l2
      have r32 := rel_rel (W := W) (w := 2) (by decide) _ S k rfl l2
      have nb1 := nb_1 (S := S) l2 l5
      have t1 := hL.1 1 (by omega)
      have l5' : ∀ j, 0 ≤ j → j < (rel 3 S W k).2 → 0 ≤ W j ∧ W j ≤ 3 := fun j u v => l5 j u (by omega)
      have hfi : ∀ y, pk (ra M y) 142 5 = -1 := fun y => by rw [ra_x (by decide)]; exact hb
      have wch : wz (chr S n (sk S n p)) = chr S n (sk S n p) := by
        unfold chr
        by_cases c : sk S n p < n
        · rw [if_pos c]
          exact wz_of (hT.1 _ (by omega) c)
        · rw [if_neg c]; exact wz_0
      have r128 := fun (p : Int) (h0 : 0 ≤ p) (h1 : p ≤ n) (Q : MOut → MHp → Prop) => R128 (Q := Q) (X := X) (s := s) (dh := dh) (dl := dl) (t := t) hT h0 h1
      have skS : ∀ y, sk S0 n y = sk S n y := fun y => (sk_hag t1).symm
      have chS : ∀ y, chr S0 n y = chr S n y := fun y => by unfold chr; rw [t1]
      have v44 := wrd_j (S := S) (n := n) (q := sk S n p) 44 21 wl.2.2.2.2.2.2.2.2.2.2.1 (by decide) hs.2
      have v45 := wrd_j (S := S) (n := n) (q := sk S n p) 45 22 wl.2.2.2.2.2.2.2.2.2.2.2.1 (by decide) hs.2
      have x1 : wz (sk S n p) = sk S n p := wz_id (by omega) (by omega)
      have x2 : ¬ sk S n p = -1 := by omega
      simp only [l_test, Int.reduceEq, if_false] at hR
      -- from 162 on: no join
      have stop : ¬ isW S (sk S n p) (we S n (sk S n p)) (P_txt 21) = true → ¬ isW S (sk S n p) (we S n (sk S n p)) (P_txt 22) = true → (nb W k.toNat = 0 → ∀ M', TQ (rel 1 S W k).1 W (rel 1 S W k).2 M' → NL M M' → pk M' 142 5 = -1 → Q (.inl none) (mkh X s dh dl t (ra M' (sk S n p)))) → (¬ nb W k.toNat = 0 → ∀ M', NL M M' → BAD M' 1 (sk S n p) → Q (.inl none) (mkh X s dh dl t M')) → ∀ y, 0 ≤ y → y ≤ n → sk S n y = sk S n p → EX 148 (sx 148 162) [.ref 142, vI (nb W k.toNat), vI 1, a, b] [] (mkh X s dh dl t (ra M y)) Q := by
        intro c1 c2 q1 q2 y y0 y1 y2
        have r := r128 y y0 y1
        rw [y2] at r
        have en : EX 148 (sx 148 9) [.ref 142, vI (nb W k.toNat), vI 0, vJ (wrd S (sk S n p) (we S n (sk S n p))), .null] [] (mkh X s dh dl t (ra M (sk S n p))) Q := by
          rw [s_148_9]
          by_cases c3 : nb W k.toNat = 0
          · have fin : CL 146 [.ref 142, vI (13 - 1)] (mkh X s dh dl t (ra M (sk S n p))) (bk 148 277 [(280, I_rt)] [.ref 142, vI (nb W k.toNat), vI 0, vJ (wrd S (sk S n p) (we S n (sk S n p))), .null] [] Q) := by
              refine R146 (w := 1) (by decide) hb l5' (by omega) ⟨by omega, by omega⟩ hq ?_
              intro M2 k1 k2 k3
              rw [r31] at k1
              have z := q1 c3 M2 k1 k2 k3
              simp only [↓x_al_0, ↓x_c, ↓pi_142_34, ↓x_is_1, ↓x_is_2, ↓c_123, ↓x_eq0, ↓x_il_2, ↓c_125, ↓x_eq, ↓c_128, ↓x_str, ↓c_129, ↓x_lcw0, ↓x_lcw1, ↓x_ne0, ↓x_ne, ↓x_dup_i, ↓x_dup_r, ↓gi_142_4, ↓x_iadd, ↓pi_142_4, ↓x_inc_1, ↓c_147, ↓x_go, ↓c_130, ↓c_149, ↓c_146, ↓x_il_1, ↓x_le0, ↓gi_142_34, ↓x_isub, ↓x_rt, ↓x_ls_3, ↓x_ll_3, ↓c_124, ↓n_148, ↓s_148_0, ↓s_148_43, ↓s_148_73, ↓s_148_86, ↓s_148_154, ↓s_148_162, ↓s_148_189, ↓s_148_193, ↓s_148_194, ↓s_148_202, ↓s_148_223, ↓s_148_225, ↓s_148_245, ↓s_148_247, ↓s_148_253, ↓s_148_261, ↓s_148_274, ↓bk_v, ↓bk_n, ↓bk_r, ↓pv_i, ↓pv_r, ↓pv_0, ↓pv_l, wz_pk, wz_ti, wz_wz, vI_wz, wz_id, wz_0, List.length_cons, List.length_nil, ↓reduceIte, true_and, and_true, Int.reduceLE, Int.reduceLT, Int.reduceEq, not_true_eq_false, not_false_eq_true, false_or, or_false, true_or, or_true, ite_not, Int.reduceNeg, Int32.reduceToInt, Nat.reduceAdd, Nat.reduceLeDiff, Nat.reduceLT, Nat.reduceEqDiff, Int.reduceAdd, Int.reduceSub, Int.reduceMul, Nat.zero_le, pk_po_ne, pk_po_eq, pk_po_ix, rI, ne_eq]
              exact z
            rw [c3] at fin ⊢
            simp (disch := omega) only [↓x_al_0, ↓x_c, ↓pi_142_34, ↓x_is_1, ↓x_is_2, ↓c_123, ↓x_eq0, ↓x_il_2, ↓c_125, ↓x_eq, ↓c_128, ↓x_str, ↓c_129, ↓x_lcw0, ↓x_lcw1, ↓x_ne0, ↓x_ne, ↓x_dup_i, ↓x_dup_r, ↓gi_142_4, ↓x_iadd, ↓pi_142_4, ↓x_inc_1, ↓c_147, ↓x_go, ↓c_130, ↓c_149, ↓c_146, ↓x_il_1, ↓x_le0, ↓gi_142_34, ↓x_isub, ↓x_rt, ↓x_ls_3, ↓x_ll_3, ↓c_124, ↓n_148, ↓s_148_0, ↓s_148_43, ↓s_148_73, ↓s_148_86, ↓s_148_154, ↓s_148_162, ↓s_148_189, ↓s_148_193, ↓s_148_194, ↓s_148_202, ↓s_148_223, ↓s_148_225, ↓s_148_245, ↓s_148_247, ↓s_148_253, ↓s_148_261, ↓s_148_274, ↓bk_v, ↓bk_n, ↓bk_r, ↓pv_i, ↓pv_r, ↓pv_0, ↓pv_l, wz_pk, wz_ti, wz_wz, vI_wz, wz_id, wz_0, List.length_cons, List.length_nil, ↓reduceIte, true_and, and_true, Int.reduceLE, Int.reduceLT, Int.reduceEq, not_true_eq_false, not_false_eq_true, false_or, or_false, true_or, or_true, ite_not, Int.reduceNeg, Int32.reduceToInt, Nat.reduceAdd, Nat.reduceLeDiff, Nat.reduceLT, Nat.reduceEqDiff, Int.reduceAdd, Int.reduceSub, Int.reduceMul, Nat.zero_le, pk_po_ne, pk_po_eq, pk_po_ix, rI, ne_eq, ↓R123, hfi, decide_true, bi_wz, bi_0, Bool.true_eq_false, if_false, if_true, Int.le_refl]
            exact fin
          · have c4 : ¬ nb W k.toNat ≤ 0 := by omega
            have hb2 : BAD (ra (po (po M 142 5 (sk S n p)) 142 6 1) (sk S n p)) 1 (sk S n p) := ⟨by simp [pk_po, pk_flm, ra]; exact x1, by simp [pk_po, pk_flm, ra]; rfl, x2⟩
            have fin : CL 146 [.ref 142, vI (13 - 1)] (mkh X s dh dl t (ra (po (po M 142 5 (sk S n p)) 142 6 1) (sk S n p))) (bk 148 277 [(280, I_rt)] [.ref 142, vI (nb W k.toNat), vI 0, vJ (wrd S (sk S n p) (we S n (sk S n p))), .null] [] Q) := by
              refine R146b (k := (rel 3 S W k).2) hb2 (by rw [ra_x (by decide), pk_po_ix (by decide), pk_po_ix (by decide)]; exact hq.2.1) ⟨by omega, by omega⟩ ?_
              intro M2 k1 k2
              have z := q2 c3 M2 ((((NL.rfl.pw rfl).pw rfl).ra).trans k1) k2
              simp only [↓x_al_0, ↓x_c, ↓pi_142_34, ↓x_is_1, ↓x_is_2, ↓c_123, ↓x_eq0, ↓x_il_2, ↓c_125, ↓x_eq, ↓c_128, ↓x_str, ↓c_129, ↓x_lcw0, ↓x_lcw1, ↓x_ne0, ↓x_ne, ↓x_dup_i, ↓x_dup_r, ↓gi_142_4, ↓x_iadd, ↓pi_142_4, ↓x_inc_1, ↓c_147, ↓x_go, ↓c_130, ↓c_149, ↓c_146, ↓x_il_1, ↓x_le0, ↓gi_142_34, ↓x_isub, ↓x_rt, ↓x_ls_3, ↓x_ll_3, ↓c_124, ↓n_148, ↓s_148_0, ↓s_148_43, ↓s_148_73, ↓s_148_86, ↓s_148_154, ↓s_148_162, ↓s_148_189, ↓s_148_193, ↓s_148_194, ↓s_148_202, ↓s_148_223, ↓s_148_225, ↓s_148_245, ↓s_148_247, ↓s_148_253, ↓s_148_261, ↓s_148_274, ↓bk_v, ↓bk_n, ↓bk_r, ↓pv_i, ↓pv_r, ↓pv_0, ↓pv_l, wz_pk, wz_ti, wz_wz, vI_wz, wz_id, wz_0, List.length_cons, List.length_nil, ↓reduceIte, true_and, and_true, Int.reduceLE, Int.reduceLT, Int.reduceEq, not_true_eq_false, not_false_eq_true, false_or, or_false, true_or, or_true, ite_not, Int.reduceNeg, Int32.reduceToInt, Nat.reduceAdd, Nat.reduceLeDiff, Nat.reduceLT, Nat.reduceEqDiff, Int.reduceAdd, Int.reduceSub, Int.reduceMul, Nat.zero_le, pk_po_ne, pk_po_eq, pk_po_ix, rI, ne_eq]
              exact z
            simp (disch := omega) only [↓x_al_0, ↓x_c, ↓pi_142_34, ↓x_is_1, ↓x_is_2, ↓c_123, ↓x_eq0, ↓x_il_2, ↓c_125, ↓x_eq, ↓c_128, ↓x_str, ↓c_129, ↓x_lcw0, ↓x_lcw1, ↓x_ne0, ↓x_ne, ↓x_dup_i, ↓x_dup_r, ↓gi_142_4, ↓x_iadd, ↓pi_142_4, ↓x_inc_1, ↓c_147, ↓x_go, ↓c_130, ↓c_149, ↓c_146, ↓x_il_1, ↓x_le0, ↓gi_142_34, ↓x_isub, ↓x_rt, ↓x_ls_3, ↓x_ll_3, ↓c_124, ↓n_148, ↓s_148_0, ↓s_148_43, ↓s_148_73, ↓s_148_86, ↓s_148_154, ↓s_148_162, ↓s_148_189, ↓s_148_193, ↓s_148_194, ↓s_148_202, ↓s_148_223, ↓s_148_225, ↓s_148_245, ↓s_148_247, ↓s_148_253, ↓s_148_261, ↓s_148_274, ↓bk_v, ↓bk_n, ↓bk_r, ↓pv_i, ↓pv_r, ↓pv_0, ↓pv_l, wz_pk, wz_ti, wz_wz, vI_wz, wz_id, wz_0, List.length_cons, List.length_nil, ↓reduceIte, true_and, and_true, Int.reduceLE, Int.reduceLT, Int.reduceEq, not_true_eq_false, not_false_eq_true, false_or, or_false, true_or, or_true, ite_not, Int.reduceNeg, Int32.reduceToInt, Nat.reduceAdd, Nat.reduceLeDiff, Nat.reduceLT, Nat.reduceEqDiff, Int.reduceAdd, Int.reduceSub, Int.reduceMul, Nat.zero_le, pk_po_ne, pk_po_eq, pk_po_ix, rI, ne_eq, ↓R123, hfi, decide_true, bi_wz, bi_0, Bool.true_eq_false, if_false, if_true, c4, ra_4, ↓R124f (hfi _), ra_px]
            exact fin
        rw [s_148_162]
        simp (disch := omega) only [↓x_al_0, ↓x_c, ↓pi_142_34, ↓x_is_1, ↓x_is_2, ↓c_123, ↓x_eq0, ↓x_il_2, ↓c_125, ↓x_eq, ↓c_128, ↓x_str, ↓c_129, ↓x_lcw0, ↓x_lcw1, ↓x_ne0, ↓x_ne, ↓x_dup_i, ↓x_dup_r, ↓gi_142_4, ↓x_iadd, ↓pi_142_4, ↓x_inc_1, ↓c_147, ↓x_go, ↓c_130, ↓c_149, ↓c_146, ↓x_il_1, ↓x_le0, ↓gi_142_34, ↓x_isub, ↓x_rt, ↓x_ls_3, ↓x_ll_3, ↓c_124, ↓n_148, ↓s_148_0, ↓s_148_43, ↓s_148_73, ↓s_148_86, ↓s_148_154, ↓s_148_162, ↓s_148_189, ↓s_148_193, ↓s_148_194, ↓s_148_223, ↓s_148_225, ↓s_148_245, ↓s_148_247, ↓s_148_253, ↓s_148_261, ↓s_148_274, ↓bk_v, ↓bk_n, ↓bk_r, ↓pv_i, ↓pv_r, ↓pv_0, ↓pv_l, wz_pk, wz_ti, wz_wz, vI_wz, wz_id, wz_0, List.length_cons, List.length_nil, ↓reduceIte, true_and, and_true, Int.reduceLE, Int.reduceLT, Int.reduceEq, not_true_eq_false, not_false_eq_true, false_or, or_false, true_or, or_true, ite_not, Int.reduceNeg, Int32.reduceToInt, Nat.reduceAdd, Nat.reduceLeDiff, Nat.reduceLT, Nat.reduceEqDiff, Int.reduceAdd, Int.reduceSub, Int.reduceMul, Nat.zero_le, pk_po_ne, pk_po_eq, pk_po_ix, rI, ne_eq, ↓r, ↓R129j (j := 44) (by decide) (by decide), ↓R129j (j := 45) (by decide) (by decide), v44, v45, c1, c2, if_false, if_true]
        exact en
      -- from 162 on: a join
      have join : ∀ c : Int, (c = 2 ∨ c = 1) → (c = 2 → isW S (sk S n p) (we S n (sk S n p)) (P_txt 21) = true) → (c = 1 → isW S (sk S n p) (we S n (sk S n p)) (P_txt 22) = true) → l_join S W k n p = (0, we S n (sk S n p), 0, (rel c S W k).1, upi W (rel c S W k).2 c, (rel c S W k).2 + 1) → ∀ y, 0 ≤ y → y ≤ n → sk S n y = sk S n p → EX 148 (sx 148 162) [.ref 142, vI (nb W k.toNat), vI 1, a, b] [] (mkh X s dh dl t (ra M y)) Q := by
        intro c hc i1 i2 lj y y0 y1 y2
        have r := r128 y y0 y1
        rw [y2] at r
        obtain ⟨g1, g2, g3, g4⟩ := lb_join hl lj
        rw [lj] at hR
        simp only [Int.reduceEq, not_false_eq_true, and_self, if_true] at hR
        have rrc := rel_rng (w := c) (S := S) (W := W) l2
        have r3c := rel_rel (W := W) (w := c) (by omega) _ S k rfl l2
        have nbc := (nb_rel (W := W) (w := c) (by omega) _ S k rfl l2).1
        have nxt : ∀ M2 z1 z2, TQ (rel c S W k).1 W (rel c S W k).2 M2 → NL M M2 → pk M2 142 5 = -1 → EX 148 (sx 148 20) [.ref 142, vI (nb W k.toNat), vI 1, z1, z2] [] (mkh X s dh dl t (ra (po (po M2 160 (rel c S W k).2 (13 - c)) 142 34 ((rel c S W k).2 + 1)) (we S n (sk S n p)))) Q := by
          intro M2 z1 z2 k1 k2 k3
          have nn : NL M2 (po (po M2 160 (rel c S W k).2 (13 - c)) 142 34 ((rel c S W k).2 + 1)) := (NL.rfl.pw rfl).pw rfl
          have pu := k1.push (c := c) ⟨rrc.1, by omega⟩ (by omega)
          rw [show cR c = 13 - c by unfold cR; rw [if_neg (by omega)]] at pu
          have z := ihA (we S n (sk S n p)) (rel c S W k).1 (upi W (rel c S W k).2 c) ((rel c S W k).2 + 1) _ z1 z2 g1 (by omega) (((hT.nl k2).nl nn).st (g4.1 1 (by omega))) pu (by rw [pk_po_ix (by decide), pk_po_ne (by decide)]; exact k3) (hL.trans g4) ((hN.trans k2).trans nn) hR
          rw [nb_upi rrc.1, if_neg (by omega), Int.add_zero, nbc] at z
          exact z
        rcases hc with rfl | rfl
        · have j1 := i1 rfl
          have fin : CL 146 [.ref 142, vI (13 - 2)] (mkh X s dh dl t (ra M (we S n (sk S n p)))) (bk 148 225 [(228, I_al 0 1), (229, I_ll 3 1), (230, I_str 44 1 273), (233, I_s 129 1 117), (236, I_lcmp), (237, I_if 1 245), (240, I_c 1 0 0 11), (242, I_go 247), (245, I_c 1 0 0 12), (247, I_v 147 1 131), (250, I_go 9), (253, I_al 0 1), (254, I_v 123 0 113), (257, I_if 1 261), (260, I_rt), (261, I_il 1 1), (262, I_if 5 274), (265, I_al 0 1), (266, I_c 0 0 0 1), (267, I_al 0 1), (268, I_gi 4 11 171), (271, I_v 124 2 115), (274, I_al 0 1), (275, I_c 1 0 0 12), (277, I_v 146 1 133), (280, I_rt)] [.ref 142, vI (nb W k.toNat), vI 1, vJ (wrd S (sk S n p) (we S n (sk S n p))), .null] [] Q) := by
            refine R146 (w := 2) (by decide) hb l5' (by omega) ⟨by omega, by omega⟩ hq ?_
            intro M2 k1 k2 k3
            rw [r3c] at k1
            have z := nxt M2 (vJ (wrd S (sk S n p) (we S n (sk S n p)))) .null k1 k2 k3
            have f2 : ∀ y, pk (ra (po (po M2 160 (rel 2 S W k).2 11) 142 34 ((rel 2 S W k).2 + 1)) y) 142 5 = -1 := fun y => by rw [ra_x (by decide), pk_po_ix (by decide), pk_po_ne (by decide)]; exact k3
            simp (disch := omega) only [↓x_al_0, ↓x_c, ↓pi_142_34, ↓x_is_1, ↓x_is_2, ↓c_123, ↓x_eq0, ↓x_il_2, ↓c_125, ↓x_eq, ↓c_128, ↓x_str, ↓c_129, ↓x_lcw0, ↓x_lcw1, ↓x_ne0, ↓x_ne, ↓x_dup_i, ↓x_dup_r, ↓gi_142_4, ↓x_iadd, ↓pi_142_4, ↓x_inc_1, ↓c_147, ↓x_go, ↓c_130, ↓c_149, ↓c_146, ↓x_il_1, ↓x_le0, ↓gi_142_34, ↓x_isub, ↓x_rt, ↓x_ls_3, ↓x_ll_3, ↓c_124, ↓n_148, ↓s_148_0, ↓s_148_43, ↓s_148_73, ↓s_148_86, ↓s_148_154, ↓s_148_162, ↓s_148_189, ↓s_148_193, ↓s_148_194, ↓s_148_202, ↓s_148_223, ↓s_148_225, ↓s_148_245, ↓s_148_247, ↓s_148_253, ↓s_148_261, ↓s_148_274, ↓bk_v, ↓bk_n, ↓bk_r, ↓pv_i, ↓pv_r, ↓pv_0, ↓pv_l, wz_pk, wz_ti, wz_wz, vI_wz, wz_id, wz_0, List.length_cons, List.length_nil, ↓reduceIte, true_and, and_true, Int.reduceLE, Int.reduceLT, Int.reduceEq, not_true_eq_false, not_false_eq_true, false_or, or_false, true_or, or_true, ite_not, Int.reduceNeg, Int32.reduceToInt, Nat.reduceAdd, Nat.reduceLeDiff, Nat.reduceLT, Nat.reduceEqDiff, Int.reduceAdd, Int.reduceSub, Int.reduceMul, Nat.zero_le, pk_po_ne, pk_po_eq, pk_po_ix, rI, ne_eq, ↓R129j (j := 44) (by decide) (by decide), v44, j1, if_true, ↓R147 (k := (rel 2 S W k).2) k1.2.1 (show 0 ≤ (rel 2 S W k).2 ∧ (rel 2 S W k).2 < 300 by omega)]
            rw [s_148_9]
            simp (disch := omega) only [↓x_al_0, ↓x_c, ↓pi_142_34, ↓x_is_1, ↓x_is_2, ↓c_123, ↓x_eq0, ↓x_il_2, ↓c_125, ↓x_eq, ↓c_128, ↓x_str, ↓c_129, ↓x_lcw0, ↓x_lcw1, ↓x_ne0, ↓x_ne, ↓x_dup_i, ↓x_dup_r, ↓gi_142_4, ↓x_iadd, ↓pi_142_4, ↓x_inc_1, ↓c_147, ↓x_go, ↓c_130, ↓c_149, ↓c_146, ↓x_il_1, ↓x_le0, ↓gi_142_34, ↓x_isub, ↓x_rt, ↓x_ls_3, ↓x_ll_3, ↓c_124, ↓n_148, ↓s_148_0, ↓s_148_43, ↓s_148_73, ↓s_148_86, ↓s_148_154, ↓s_148_162, ↓s_148_189, ↓s_148_193, ↓s_148_194, ↓s_148_202, ↓s_148_223, ↓s_148_225, ↓s_148_245, ↓s_148_247, ↓s_148_253, ↓s_148_261, ↓s_148_274, ↓bk_v, ↓bk_n, ↓bk_r, ↓pv_i, ↓pv_r, ↓pv_0, ↓pv_l, wz_pk, wz_ti, wz_wz, vI_wz, wz_id, wz_0, List.length_cons, List.length_nil, ↓reduceIte, true_and, and_true, Int.reduceLE, Int.reduceLT, Int.reduceEq, not_true_eq_false, not_false_eq_true, false_or, or_false, true_or, or_true, ite_not, Int.reduceNeg, Int32.reduceToInt, Nat.reduceAdd, Nat.reduceLeDiff, Nat.reduceLT, Nat.reduceEqDiff, Int.reduceAdd, Int.reduceSub, Int.reduceMul, Nat.zero_le, pk_po_ne, pk_po_eq, pk_po_ix, rI, ne_eq, ↓R123, f2, decide_true, bi_wz, bi_0, Bool.true_eq_false, if_false]
            exact z
          rw [s_148_162]
          simp (disch := omega) only [↓x_al_0, ↓x_c, ↓pi_142_34, ↓x_is_1, ↓x_is_2, ↓c_123, ↓x_eq0, ↓x_il_2, ↓c_125, ↓x_eq, ↓c_128, ↓x_str, ↓c_129, ↓x_lcw0, ↓x_lcw1, ↓x_ne0, ↓x_ne, ↓x_dup_i, ↓x_dup_r, ↓gi_142_4, ↓x_iadd, ↓pi_142_4, ↓x_inc_1, ↓c_147, ↓x_go, ↓c_130, ↓c_149, ↓c_146, ↓x_il_1, ↓x_le0, ↓gi_142_34, ↓x_isub, ↓x_rt, ↓x_ls_3, ↓x_ll_3, ↓c_124, ↓n_148, ↓s_148_0, ↓s_148_43, ↓s_148_73, ↓s_148_86, ↓s_148_154, ↓s_148_162, ↓s_148_189, ↓s_148_193, ↓s_148_194, ↓s_148_202, ↓s_148_223, ↓s_148_225, ↓s_148_245, ↓s_148_247, ↓s_148_253, ↓s_148_261, ↓s_148_274, ↓bk_v, ↓bk_n, ↓bk_r, ↓pv_i, ↓pv_r, ↓pv_0, ↓pv_l, wz_pk, wz_ti, wz_wz, vI_wz, wz_id, wz_0, List.length_cons, List.length_nil, ↓reduceIte, true_and, and_true, Int.reduceLE, Int.reduceLT, Int.reduceEq, not_true_eq_false, not_false_eq_true, false_or, or_false, true_or, or_true, ite_not, Int.reduceNeg, Int32.reduceToInt, Nat.reduceAdd, Nat.reduceLeDiff, Nat.reduceLT, Nat.reduceEqDiff, Int.reduceAdd, Int.reduceSub, Int.reduceMul, Nat.zero_le, pk_po_ne, pk_po_eq, pk_po_ix, rI, ne_eq, ↓r, ↓R129j (j := 44) (by decide) (by decide), v44, j1, if_true, if_false, ↓R130 hT (show 0 ≤ sk S n p by omega) hs.2]
          exact fin
        · have j2 := i2 rfl
          have j1 : ¬ isW S (sk S n p) (we S n (sk S n p)) (P_txt 21) = true := by
            intro h
            rw [← v44] at h
            rw [← v45] at j2
            exact hjl (h.symm.trans j2)
          have fin : CL 146 [.ref 142, vI (13 - 1)] (mkh X s dh dl t (ra M (we S n (sk S n p)))) (bk 148 225 [(228, I_al 0 1), (229, I_ll 3 1), (230, I_str 44 1 273), (233, I_s 129 1 117), (236, I_lcmp), (237, I_if 1 245), (240, I_c 1 0 0 11), (242, I_go 247), (245, I_c 1 0 0 12), (247, I_v 147 1 131), (250, I_go 9), (253, I_al 0 1), (254, I_v 123 0 113), (257, I_if 1 261), (260, I_rt), (261, I_il 1 1), (262, I_if 5 274), (265, I_al 0 1), (266, I_c 0 0 0 1), (267, I_al 0 1), (268, I_gi 4 11 171), (271, I_v 124 2 115), (274, I_al 0 1), (275, I_c 1 0 0 12), (277, I_v 146 1 133), (280, I_rt)] [.ref 142, vI (nb W k.toNat), vI 1, vJ (wrd S (sk S n p) (we S n (sk S n p))), .null] [] Q) := by
            refine R146 (w := 1) (by decide) hb l5' (by omega) ⟨by omega, by omega⟩ hq ?_
            intro M2 k1 k2 k3
            rw [r3c] at k1
            have z := nxt M2 (vJ (wrd S (sk S n p) (we S n (sk S n p)))) .null k1 k2 k3
            have f2 : ∀ y, pk (ra (po (po M2 160 (rel 1 S W k).2 12) 142 34 ((rel 1 S W k).2 + 1)) y) 142 5 = -1 := fun y => by rw [ra_x (by decide), pk_po_ix (by decide), pk_po_ne (by decide)]; exact k3
            simp (disch := omega) only [↓x_al_0, ↓x_c, ↓pi_142_34, ↓x_is_1, ↓x_is_2, ↓c_123, ↓x_eq0, ↓x_il_2, ↓c_125, ↓x_eq, ↓c_128, ↓x_str, ↓c_129, ↓x_lcw0, ↓x_lcw1, ↓x_ne0, ↓x_ne, ↓x_dup_i, ↓x_dup_r, ↓gi_142_4, ↓x_iadd, ↓pi_142_4, ↓x_inc_1, ↓c_147, ↓x_go, ↓c_130, ↓c_149, ↓c_146, ↓x_il_1, ↓x_le0, ↓gi_142_34, ↓x_isub, ↓x_rt, ↓x_ls_3, ↓x_ll_3, ↓c_124, ↓n_148, ↓s_148_0, ↓s_148_43, ↓s_148_73, ↓s_148_86, ↓s_148_154, ↓s_148_162, ↓s_148_189, ↓s_148_193, ↓s_148_194, ↓s_148_202, ↓s_148_223, ↓s_148_225, ↓s_148_245, ↓s_148_247, ↓s_148_253, ↓s_148_261, ↓s_148_274, ↓bk_v, ↓bk_n, ↓bk_r, ↓pv_i, ↓pv_r, ↓pv_0, ↓pv_l, wz_pk, wz_ti, wz_wz, vI_wz, wz_id, wz_0, List.length_cons, List.length_nil, ↓reduceIte, true_and, and_true, Int.reduceLE, Int.reduceLT, Int.reduceEq, not_true_eq_false, not_false_eq_true, false_or, or_false, true_or, or_true, ite_not, Int.reduceNeg, Int32.reduceToInt, Nat.reduceAdd, Nat.reduceLeDiff, Nat.reduceLT, Nat.reduceEqDiff, Int.reduceAdd, Int.reduceSub, Int.reduceMul, Nat.zero_le, pk_po_ne, pk_po_eq, pk_po_ix, rI, ne_eq, ↓R129j (j := 44) (by decide) (by decide), v44, j1, if_false, ↓R147 (k := (rel 1 S W k).2) k1.2.1 (show 0 ≤ (rel 1 S W k).2 ∧ (rel 1 S W k).2 < 300 by omega)]
            rw [s_148_9]
            simp (disch := omega) only [↓x_al_0, ↓x_c, ↓pi_142_34, ↓x_is_1, ↓x_is_2, ↓c_123, ↓x_eq0, ↓x_il_2, ↓c_125, ↓x_eq, ↓c_128, ↓x_str, ↓c_129, ↓x_lcw0, ↓x_lcw1, ↓x_ne0, ↓x_ne, ↓x_dup_i, ↓x_dup_r, ↓gi_142_4, ↓x_iadd, ↓pi_142_4, ↓x_inc_1, ↓c_147, ↓x_go, ↓c_130, ↓c_149, ↓c_146, ↓x_il_1, ↓x_le0, ↓gi_142_34, ↓x_isub, ↓x_rt, ↓x_ls_3, ↓x_ll_3, ↓c_124, ↓n_148, ↓s_148_0, ↓s_148_43, ↓s_148_73, ↓s_148_86, ↓s_148_154, ↓s_148_162, ↓s_148_189, ↓s_148_193, ↓s_148_194, ↓s_148_202, ↓s_148_223, ↓s_148_225, ↓s_148_245, ↓s_148_247, ↓s_148_253, ↓s_148_261, ↓s_148_274, ↓bk_v, ↓bk_n, ↓bk_r, ↓pv_i, ↓pv_r, ↓pv_0, ↓pv_l, wz_pk, wz_ti, wz_wz, vI_wz, wz_id, wz_0, List.length_cons, List.length_nil, ↓reduceIte, true_and, and_true, Int.reduceLE, Int.reduceLT, Int.reduceEq, not_true_eq_false, not_false_eq_true, false_or, or_false, true_or, or_true, ite_not, Int.reduceNeg, Int32.reduceToInt, Nat.reduceAdd, Nat.reduceLeDiff, Nat.reduceLT, Nat.reduceEqDiff, Int.reduceAdd, Int.reduceSub, Int.reduceMul, Nat.zero_le, pk_po_ne, pk_po_eq, pk_po_ix, rI, ne_eq, ↓R123, f2, decide_true, bi_wz, bi_0, Bool.true_eq_false, if_false]
            exact z
          rw [s_148_162]
          simp (disch := omega) only [↓x_al_0, ↓x_c, ↓pi_142_34, ↓x_is_1, ↓x_is_2, ↓c_123, ↓x_eq0, ↓x_il_2, ↓c_125, ↓x_eq, ↓c_128, ↓x_str, ↓c_129, ↓x_lcw0, ↓x_lcw1, ↓x_ne0, ↓x_ne, ↓x_dup_i, ↓x_dup_r, ↓gi_142_4, ↓x_iadd, ↓pi_142_4, ↓x_inc_1, ↓c_147, ↓x_go, ↓c_130, ↓c_149, ↓c_146, ↓x_il_1, ↓x_le0, ↓gi_142_34, ↓x_isub, ↓x_rt, ↓x_ls_3, ↓x_ll_3, ↓c_124, ↓n_148, ↓s_148_0, ↓s_148_43, ↓s_148_73, ↓s_148_86, ↓s_148_154, ↓s_148_162, ↓s_148_189, ↓s_148_193, ↓s_148_194, ↓s_148_202, ↓s_148_223, ↓s_148_225, ↓s_148_245, ↓s_148_247, ↓s_148_253, ↓s_148_261, ↓s_148_274, ↓bk_v, ↓bk_n, ↓bk_r, ↓pv_i, ↓pv_r, ↓pv_0, ↓pv_l, wz_pk, wz_ti, wz_wz, vI_wz, wz_id, wz_0, List.length_cons, List.length_nil, ↓reduceIte, true_and, and_true, Int.reduceLE, Int.reduceLT, Int.reduceEq, not_true_eq_false, not_false_eq_true, false_or, or_false, true_or, or_true, ite_not, Int.reduceNeg, Int32.reduceToInt, Nat.reduceAdd, Nat.reduceLeDiff, Nat.reduceLT, Nat.reduceEqDiff, Int.reduceAdd, Int.reduceSub, Int.reduceMul, Nat.zero_le, pk_po_ne, pk_po_eq, pk_po_ix, rI, ne_eq, ↓r, ↓R129j (j := 44) (by decide) (by decide), ↓R129j (j := 45) (by decide) (by decide), v44, v45, j1, j2, if_true, if_false, ↓R130 hT (show 0 ≤ sk S n p by omega) hs.2]
          exact fin
      -- at 96
      have at96 : ¬ (¬ nb W k.toNat = 0 ∧ chr S n (sk S n p) = 93) → (∀ y, 0 ≤ y → y ≤ n → sk S n y = sk S n p → EX 148 (sx 148 162) [.ref 142, vI (nb W k.toNat), vI 1, a, b] [] (mkh X s dh dl t (ra M y)) Q) → EX 148 (sx 148 96) [.ref 142, vI (nb W k.toNat), vI 1, a, b] [] (mkh X s dh dl t (ra M p)) Q := by
        intro c1 hh
        rw [s_148_96]
        by_cases c2 : nb W k.toNat = 0
        · have z := hh p p0 l4 rfl
          rw [c2] at z ⊢
          simp (disch := omega) only [↓x_al_0, ↓x_c, ↓pi_142_34, ↓x_is_1, ↓x_is_2, ↓c_123, ↓x_eq0, ↓x_il_2, ↓c_125, ↓x_eq, ↓c_128, ↓x_str, ↓c_129, ↓x_lcw0, ↓x_lcw1, ↓x_ne0, ↓x_ne, ↓x_dup_i, ↓x_dup_r, ↓gi_142_4, ↓x_iadd, ↓pi_142_4, ↓x_inc_1, ↓c_147, ↓x_go, ↓c_130, ↓c_149, ↓c_146, ↓x_il_1, ↓x_le0, ↓gi_142_34, ↓x_isub, ↓x_rt, ↓x_ls_3, ↓x_ll_3, ↓c_124, ↓n_148, ↓s_148_0, ↓s_148_43, ↓s_148_73, ↓s_148_86, ↓s_148_154, ↓s_148_189, ↓s_148_193, ↓s_148_194, ↓s_148_202, ↓s_148_223, ↓s_148_225, ↓s_148_245, ↓s_148_247, ↓s_148_253, ↓s_148_261, ↓s_148_274, ↓bk_v, ↓bk_n, ↓bk_r, ↓pv_i, ↓pv_r, ↓pv_0, ↓pv_l, wz_pk, wz_ti, wz_wz, vI_wz, wz_id, wz_0, List.length_cons, List.length_nil, ↓reduceIte, true_and, and_true, Int.reduceLE, Int.reduceLT, Int.reduceEq, not_true_eq_false, not_false_eq_true, false_or, or_false, true_or, or_true, ite_not, Int.reduceNeg, Int32.reduceToInt, Nat.reduceAdd, Nat.reduceLeDiff, Nat.reduceLT, Nat.reduceEqDiff, Int.reduceAdd, Int.reduceSub, Int.reduceMul, Nat.zero_le, pk_po_ne, pk_po_eq, pk_po_ix, rI, ne_eq, ↓R123, hfi, decide_true, bi_wz, bi_0, Bool.true_eq_false, if_false, if_true, Int.le_refl]
          exact z
        · have c3 : ¬ nb W k.toNat ≤ 0 := by omega
          have c4 : ¬ chr S n (sk S n p) = 93 := fun e => c1 ⟨c2, e⟩
          have z := hh (sk S n p) (by omega) hs.2 sq
          simp (disch := omega) only [↓x_al_0, ↓x_c, ↓pi_142_34, ↓x_is_1, ↓x_is_2, ↓c_123, ↓x_eq0, ↓x_il_2, ↓c_125, ↓x_eq, ↓c_128, ↓x_str, ↓c_129, ↓x_lcw0, ↓x_lcw1, ↓x_ne0, ↓x_ne, ↓x_dup_i, ↓x_dup_r, ↓gi_142_4, ↓x_iadd, ↓pi_142_4, ↓x_inc_1, ↓c_147, ↓x_go, ↓c_130, ↓c_149, ↓c_146, ↓x_il_1, ↓x_le0, ↓gi_142_34, ↓x_isub, ↓x_rt, ↓x_ls_3, ↓x_ll_3, ↓c_124, ↓n_148, ↓s_148_0, ↓s_148_43, ↓s_148_73, ↓s_148_86, ↓s_148_154, ↓s_148_189, ↓s_148_193, ↓s_148_194, ↓s_148_202, ↓s_148_223, ↓s_148_225, ↓s_148_245, ↓s_148_247, ↓s_148_253, ↓s_148_261, ↓s_148_274, ↓bk_v, ↓bk_n, ↓bk_r, ↓pv_i, ↓pv_r, ↓pv_0, ↓pv_l, wz_pk, wz_ti, wz_wz, vI_wz, wz_id, wz_0, List.length_cons, List.length_nil, ↓reduceIte, true_and, and_true, Int.reduceLE, Int.reduceLT, Int.reduceEq, not_true_eq_false, not_false_eq_true, false_or, or_false, true_or, or_true, ite_not, Int.reduceNeg, Int32.reduceToInt, Nat.reduceAdd, Nat.reduceLeDiff, Nat.reduceLT, Nat.reduceEqDiff, Int.reduceAdd, Int.reduceSub, Int.reduceMul, Nat.zero_le, pk_po_ne, pk_po_eq, pk_po_ix, rI, ne_eq, ↓R123, hfi, decide_true, bi_wz, bi_0, Bool.true_eq_false, if_false, if_true, c3, ↓R125 hT p0 l4, wch, c4]
          exact z
      have nw1 : ∀ j, 0 < (P_txt j).length → chr S n (sk S n p) = 93 ∨ chr S n (sk S n p) = 59 → ¬ isW S (sk S n p) (we S n (sk S n p)) (P_txt j) = true := by
        intro j hj hc h
        have hlen := isW_len h
        have hlet := we_let (S := S) (n := n) (q := sk S n p) 0 (by omega)
        have hd : sk S n p < n := by omega
        unfold chr at hc
        rw [if_pos hd] at hc
        simp only [Int.ofNat_zero, Int.add_zero] at hlet
        omega
      by_cases c1 : sk S n p < n ∧ S 1 (sk S n p) = 93
      · have hc : chr S n (sk S n p) = 93 := by unfold chr; rw [if_pos c1.1]; exact c1.2
        by_cases c2 : (rel 1 S W k).2 = 0
        · have c3 := nb1.1.mp c2
          have lj : l_join S W k n p = (1, sk S n p, 1, (rel 1 S W k).1, W, 0) := by rw [l_join, if_pos c1, if_pos c2]
          rw [lj] at hR
          simp only [Int.reduceEq, false_and, if_false] at hR
          refine at96 (fun h => h.1 c3) (stop (nw1 21 (by decide) (Or.inl hc)) (nw1 22 (by decide) (Or.inl hc)) ?_ ?_)
          · intro _ M' k1 k2 k3
            exact hsig _ _ _ _ _ M' hR.symm (hL.trans lag_rel) (hN.trans k2) k3 (by omega) hs.2 (by rw [skS]; exact sq) (by rw [chS, hc]; decide)
          · intro h; exact absurd c3 h
        · have c3 : ¬ nb W k.toNat = 0 := fun h => c2 (nb1.1.mpr h)
          have c4 : ¬ nb W k.toNat ≤ 0 := by omega
          have lj : l_join S W k n p = (0, sk S n p + 1, 1, (rel 1 S W k).1, W, (rel 1 S W k).2 - 1) := by rw [l_join, if_pos c1, if_neg c2]
          obtain ⟨g1, g2, g3, g4⟩ := lb_join hl lj
          have g1' := g1
          obtain ⟨m1, m2, m3, m4, m5⟩ := g1'
          rw [lj] at hR
          simp only [Int.reduceEq, not_false_eq_true, and_self, if_true] at hR
          have wn : wz (nb W k.toNat - 1) = nb W k.toNat - 1 := wz_id (by omega) (by omega)
          have fin : CL 146 [.ref 142, vI (13 - 1)] (mkh X s dh dl t (ra M (sk S n p + 1))) (bk 148 132 ((135, I_al 0 1) :: (136, I_dup) :: (137, I_gi 34 11 201) :: (140, I_c 0 0 0 1) :: (141, I_isub) :: (142, I_pi 34 11 201) :: (145, I_al 0 1) :: (146, I_c 1 0 0 10) :: (148, I_v 146 1 133) :: (151, I_go 96) :: sx 148 154) [.ref 142, vI (nb W k.toNat + -1), vI 1, a, b] [] Q) := by
            refine R146 (w := 1) (by decide) hb l5' (by omega) ⟨by omega, by omega⟩ hq ?_
            intro M2 k1 k2 k3
            rw [r31] at k1
            have po1 := k1.pop ⟨by omega, by omega⟩
            have g34 := k1.2.1
            have b3 : pk (po M2 142 34 ((rel 1 S W k).2 - 1)) 142 5 = -1 := by rw [pk_po_ix (by decide)]; exact k3
            have fin2 : CL 146 [.ref 142, vI (13 - 3)] (mkh X s dh dl t (ra (po M2 142 34 ((rel 1 S W k).2 - 1)) (sk S n p + 1))) (bk 148 148 ((151, I_go 96) :: sx 148 154) [.ref 142, vI (nb W k.toNat + -1), vI 1, a, b] [] Q) := by
              refine R146 (w := 3) (by decide) b3 m5 m2 ⟨m1, by omega⟩ po1 ?_
              intro M3 q1 q2 q3
              have nn : NL M M3 := (k2.pw rfl).trans q2
              have z := ihB (sk S n p + 1) (rel 1 S W k).1 W ((rel 1 S W k).2 - 1) M3 a b g1 (by omega) ((hT.nl nn).st (g4.1 1 (by omega))) q1 q3 (hL.trans g4) (hN.trans nn) hR
              rw [nb1.2 c2] at z
              rw [bk_n]
              simp (disch := omega) only [↓x_al_0, ↓x_c, ↓pi_142_34, ↓x_is_1, ↓x_is_2, ↓c_123, ↓x_eq0, ↓x_il_2, ↓c_125, ↓x_eq, ↓c_128, ↓x_str, ↓c_129, ↓x_lcw0, ↓x_lcw1, ↓x_ne0, ↓x_ne, ↓x_dup_i, ↓x_dup_r, ↓gi_142_4, ↓x_iadd, ↓pi_142_4, ↓x_inc_1, ↓c_147, ↓x_go, ↓c_130, ↓c_149, ↓c_146, ↓x_il_1, ↓x_le0, ↓gi_142_34, ↓x_isub, ↓x_rt, ↓x_ls_3, ↓x_ll_3, ↓c_124, ↓n_148, ↓s_148_0, ↓s_148_43, ↓s_148_73, ↓s_148_86, ↓s_148_162, ↓s_148_189, ↓s_148_193, ↓s_148_194, ↓s_148_202, ↓s_148_223, ↓s_148_225, ↓s_148_245, ↓s_148_247, ↓s_148_253, ↓s_148_261, ↓s_148_274, ↓bk_v, ↓bk_n, ↓bk_r, ↓pv_i, ↓pv_r, ↓pv_0, ↓pv_l, wz_pk, wz_ti, wz_wz, vI_wz, wz_id, wz_0, List.length_cons, List.length_nil, ↓reduceIte, true_and, and_true, Int.reduceLE, Int.reduceLT, Int.reduceEq, not_true_eq_false, not_false_eq_true, false_or, or_false, true_or, or_true, ite_not, Int.reduceNeg, Int32.reduceToInt, Nat.reduceAdd, Nat.reduceLeDiff, Nat.reduceLT, Nat.reduceEqDiff, Int.reduceAdd, Int.reduceSub, Int.reduceMul, Nat.zero_le, pk_po_ne, pk_po_eq, pk_po_ix, rI, ne_eq]
              rw [show nb W k.toNat + -1 = nb W k.toNat - 1 by omega]
              exact z
            simp (disch := omega) only [↓x_al_0, ↓x_c, ↓pi_142_34, ↓x_is_1, ↓x_is_2, ↓c_123, ↓x_eq0, ↓x_il_2, ↓c_125, ↓x_eq, ↓c_128, ↓x_str, ↓c_129, ↓x_lcw0, ↓x_lcw1, ↓x_ne0, ↓x_ne, ↓x_dup_i, ↓x_dup_r, ↓gi_142_4, ↓x_iadd, ↓pi_142_4, ↓x_inc_1, ↓c_147, ↓x_go, ↓c_130, ↓c_149, ↓c_146, ↓x_il_1, ↓x_le0, ↓gi_142_34, ↓x_isub, ↓x_rt, ↓x_ls_3, ↓x_ll_3, ↓c_124, ↓n_148, ↓s_148_0, ↓s_148_43, ↓s_148_73, ↓s_148_86, ↓s_148_162, ↓s_148_189, ↓s_148_193, ↓s_148_194, ↓s_148_202, ↓s_148_223, ↓s_148_225, ↓s_148_245, ↓s_148_247, ↓s_148_253, ↓s_148_261, ↓s_148_274, ↓bk_v, ↓bk_n, ↓bk_r, ↓pv_i, ↓pv_r, ↓pv_0, ↓pv_l, wz_pk, wz_ti, wz_wz, vI_wz, wz_id, wz_0, List.length_cons, List.length_nil, ↓reduceIte, true_and, and_true, Int.reduceLE, Int.reduceLT, Int.reduceEq, not_true_eq_false, not_false_eq_true, false_or, or_false, true_or, or_true, ite_not, Int.reduceNeg, Int32.reduceToInt, Nat.reduceAdd, Nat.reduceLeDiff, Nat.reduceLT, Nat.reduceEqDiff, Int.reduceAdd, Int.reduceSub, Int.reduceMul, Nat.zero_le, pk_po_ne, pk_po_eq, pk_po_ix, rI, ne_eq, ra_x, g34, ra_px]
            exact fin2
          rw [s_148_96]
          simp (disch := omega) only [↓x_al_0, ↓x_c, ↓pi_142_34, ↓x_is_1, ↓x_is_2, ↓c_123, ↓x_eq0, ↓x_il_2, ↓c_125, ↓x_eq, ↓c_128, ↓x_str, ↓c_129, ↓x_lcw0, ↓x_lcw1, ↓x_ne0, ↓x_ne, ↓x_dup_i, ↓x_dup_r, ↓gi_142_4, ↓x_iadd, ↓pi_142_4, ↓x_inc_1, ↓c_147, ↓x_go, ↓c_130, ↓c_149, ↓c_146, ↓x_il_1, ↓x_le0, ↓gi_142_34, ↓x_isub, ↓x_rt, ↓x_ls_3, ↓x_ll_3, ↓c_124, ↓n_148, ↓s_148_0, ↓s_148_43, ↓s_148_73, ↓s_148_86, ↓s_148_162, ↓s_148_189, ↓s_148_193, ↓s_148_194, ↓s_148_202, ↓s_148_223, ↓s_148_225, ↓s_148_245, ↓s_148_247, ↓s_148_253, ↓s_148_261, ↓s_148_274, ↓bk_v, ↓bk_n, ↓bk_r, ↓pv_i, ↓pv_r, ↓pv_0, ↓pv_l, wz_pk, wz_ti, wz_wz, vI_wz, wz_id, wz_0, List.length_cons, List.length_nil, ↓reduceIte, true_and, and_true, Int.reduceLE, Int.reduceLT, Int.reduceEq, not_true_eq_false, not_false_eq_true, false_or, or_false, true_or, or_true, ite_not, Int.reduceNeg, Int32.reduceToInt, Nat.reduceAdd, Nat.reduceLeDiff, Nat.reduceLT, Nat.reduceEqDiff, Int.reduceAdd, Int.reduceSub, Int.reduceMul, Nat.zero_le, pk_po_ne, pk_po_eq, pk_po_ix, rI, ne_eq, ↓R123, hfi, decide_true, bi_wz, bi_0, Bool.true_eq_false, if_false, if_true, c4, ↓R125 hT p0 l4, hc, ra_4, ra_p]
          exact fin
      · have hc : ¬ chr S n (sk S n p) = 93 := by
          unfold chr
          by_cases c : sk S n p < n
          · rw [if_pos c]; exact fun e => c1 ⟨c, e⟩
          · rw [if_neg c]; decide
        by_cases c2 : sk S n p < n ∧ S 1 (sk S n p) = 59
        · have hc2 : chr S n (sk S n p) = 59 := by unfold chr; rw [if_pos c2.1]; exact c2.2
          by_cases c3 : (rel 1 S W k).2 = 0
          · have lj : l_join S W k n p = (0, sk S n p + 1, 2, (rel 1 S W k).1, W, 0) := by rw [l_join, if_neg c1, if_pos c2, if_pos c3]
            rw [lj] at hR
            simp only [not_true_eq_false, and_false, if_false] at hR
            refine at96 (fun h => hc h.2) (stop (nw1 21 (by decide) (Or.inr hc2)) (nw1 22 (by decide) (Or.inr hc2)) ?_ ?_)
            · intro _ M' k1 k2 k3
              exact hok _ _ _ M' hR.symm k1.1 (hL.trans lag_rel) (hN.trans k2) k3 (by omega) c2.1 (by rw [← t1]; exact c2.2) (by rw [skS]; exact sq)
            · intro h; exact absurd (nb1.1.mp c3) h
          · have lj : l_join S W k n p = (1, sk S n p, 1, (rel 1 S W k).1, W, (rel 1 S W k).2) := by rw [l_join, if_neg c1, if_pos c2, if_neg c3]
            rw [lj] at hR
            simp only [Int.reduceEq, false_and, if_false] at hR
            refine at96 (fun h => hc h.2) (stop (nw1 21 (by decide) (Or.inr hc2)) (nw1 22 (by decide) (Or.inr hc2)) ?_ ?_)
            · intro h; exact absurd (nb1.1.mpr h) c3
            · intro _ M' k1 k2
              exact hbad _ _ _ _ _ _ M' (by decide) hR.symm (hL.trans lag_rel) (hN.trans k1) k2
        · have hc2 : ¬ chr S n (sk S n p) = 59 := by
            unfold chr
            by_cases c : sk S n p < n
            · rw [if_pos c]; exact fun e => c2 ⟨c, e⟩
            · rw [if_neg c]; decide
          by_cases c3 : isW S (sk S n p) (we S n (sk S n p)) (P_txt 21) = true
          · exact at96 (fun h => hc h.2) (join 2 (Or.inl rfl) (fun _ => c3) (fun h => absurd h (by decide)) (by rw [l_join, if_neg c1, if_neg c2, if_pos c3]))
          · by_cases c4 : isW S (sk S n p) (we S n (sk S n p)) (P_txt 22) = true
            · exact at96 (fun h => hc h.2) (join 1 (Or.inr rfl) (fun h => absurd h (by decide)) (fun _ => c4) (by rw [l_join, if_neg c1, if_neg c2, if_neg c3, if_pos c4]))
            · have lj : l_join S W k n p = (1, sk S n p, 1, S, W, k) := by rw [l_join, if_neg c1, if_neg c2, if_neg c3, if_neg c4]
              rw [lj] at hR
              simp only [Int.reduceEq, false_and, if_false] at hR
              refine at96 (fun h => hc h.2) (stop c3 c4 ?_ ?_)
              · intro _ M' k1 k2 k3
                exact hsig _ _ _ _ _ M' hR.symm hL (hN.trans k2) k3 (by omega) hs.2 (by rw [skS]; exact sq) (by rw [chS]; exact hc2)
              · intro _ M' k1 k2
                exact hbad _ _ _ _ _ _ M' (by decide) hR.symm hL (hN.trans k1) k2
end R85
