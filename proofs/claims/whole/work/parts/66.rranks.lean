/-! THE REFERENCE: coin by ranks -/
theorem sm_mono {f g : Int → Int} : ∀ {n : Nat}, (∀ i : Nat, i < n → f i ≤ g i) → sm f n ≤ sm g n := by
  intro n
  induction n with
  | zero => intro _; exact Int.le_refl _
  | succ n ih =>
    intro h
    have h1 := ih (fun i hi => h i (by omega))
    have h2 := h n (by omega)
    simp only [sm]
    omega
theorem sm_lt {f g : Int → Int} {k : Nat} (hk : f k + 1 ≤ g k) : ∀ {n : Nat}, k < n → (∀ i : Nat, i < n → f i ≤ g i) → sm f n + 1 ≤ sm g n := by
  intro n
  induction n with
  | zero => intro h; omega
  | succ n ih =>
    intro h h0
    have h1 := sm_mono (fun i (hi : i < n) => h0 i (by omega))
    have h2 := h0 n (by omega)
    simp only [sm]
    by_cases e : k = n
    · subst e; omega
    · have := ih (by omega) (fun i hi => h0 i (by omega)); omega
/-- how many debts have a later writ -/
def lat (S : St) (a : Int) : Int := sm (fun d => if a < S 31 d then 1 else 0) (S 3 2).toNat
theorem lat_nw {S : St} {p a : Int} (h : ¬ nw S p a = -1) : lat S (nw S p a) + 1 ≤ lat S a := by
  obtain ⟨k, k1, k2, k3, k4, k5⟩ := nwN_is _ h
  have e : S 31 k = nw S p a := k4
  unfold lat
  refine sm_lt (k := k) ?_ k1 ?_
  · simp only [e]
    rw [if_neg (by omega), if_pos (by omega)]
    omega
  · intro i _
    split
    · rw [if_pos (by omega)]; omega
    · split <;> omega
theorem rk_cnt {S : St} {p : Int} (hH : hou S) : ∀ n : Nat, nw S p (rk S p n).1 = -1 ∨ lat S (rk S p n).1 + n ≤ S 3 2 := by
  have h1 := hH.nd
  intro n
  induction n with
  | zero =>
    right
    have := sm_le (f := fun d => if (rk S p 0).1 < S 31 d then 1 else 0) (b := 1) (n := (S 3 2).toNat) (fun i _ => by split <;> omega)
    unfold lat
    omega
  | succ n ih =>
    simp only [rk]
    by_cases c : nw S p (rk S p n).1 = -1
    · rw [if_pos c]
      exact Or.inl c
    · rw [if_neg c]
      right
      have h2 := lat_nw c
      rcases ih with h3 | h3
      · exact absurd h3 c
      · simp only
        omega
theorem rk_end {S : St} {p : Int} (hH : hou S) : nw S p (rk S p (S 3 2).toNat).1 = -1 := by
  have h1 := hH.nd
  rcases rk_cnt (p := p) hH (S 3 2).toNat with h | h
  · exact h
  · by_cases c : nw S p (rk S p (S 3 2).toNat).1 = -1
    · exact c
    · exfalso
      have h2 := lat_nw c
      have h3 : ((S 3 2).toNat : Int) * 0 ≤ lat S (nw S p (rk S p (S 3 2).toNat).1) := sm_ge (fun i _ => by split <;> omega)
      omega
/-! one round of what is over is enough -/
def cnR (S : St) (p w : Int) (n : Nat) : Int := sm (fun d => if inr S p w d = true then 1 else 0) n
theorem cut_lt {S : St} {p w x d : Int} (hH : hou S) (hx : 0 ≤ x ∧ x < owedR S p w) (hd : 0 ≤ d ∧ d < S 3 2) : cutR S p w x d < S 30 d := by
  have h1 := hH.amt d hd.1 hd.2
  unfold cutR
  apply Int.ediv_lt_of_lt_mul (by omega)
  rw [Int.mul_comm (S 30 d)]
  exact Int.mul_lt_mul_of_pos_right hx.2 (by omega)
theorem cut_sum {S : St} {p w x : Int} (hx : 0 ≤ x ∧ x < owedR S p w) : ∀ n : Nat, x * sm (fun d => if inr S p w d = true then S 30 d else 0) n ≤ owedR S p w * (sm (fun d => if inr S p w d = true then cutR S p w x d else 0) n + cnR S p w n) ∧ owedR S p w * sm (fun d => if inr S p w d = true then cutR S p w x d else 0) n ≤ x * sm (fun d => if inr S p w d = true then S 30 d else 0) n := by
  intro n
  induction n with
  | zero => simp [sm, cnR]
  | succ n ih =>
    unfold cnR at *
    simp only [sm]
    have h2 : owedR S p w * cutR S p w x n ≤ x * S 30 n := by unfold cutR; exact Int.mul_ediv_self_le (by omega)
    have h3 : x * S 30 n < owedR S p w * cutR S p w x n + owedR S p w := by unfold cutR; exact Int.lt_mul_ediv_self_add (by omega)
    by_cases c : inr S p w n = true
    · simp only [c, if_true, Int.mul_add]
      simp only [Int.mul_add] at ih
      omega
    · simp only [c, Bool.false_eq_true, if_false, Int.add_zero]
      exact ih
theorem ov_rng {S : St} {p w x : Int} (hH : hou S) (hx : 0 ≤ x ∧ x < owedR S p w) : 0 ≤ ovN S p w x 0 ∧ ovN S p w x 0 ≤ cnR S p w (S 3 2).toNat := by
  obtain ⟨h1, h2⟩ := cut_sum hx (S 3 2).toNat
  have e : sm (fun d => if inr S p w d = true then S 30 d else 0) (S 3 2).toNat = owedR S p w := rfl
  rw [e, Int.mul_comm] at h1 h2
  simp only [ovN]
  have h3 := Int.le_of_mul_le_mul_left h1 (by omega)
  have h4 := Int.le_of_mul_le_mul_right h2 (show 0 < owedR S p w by omega)
  omega
theorem ov_step {S : St} {p w x : Int} (hH : hou S) (hx : 0 ≤ x ∧ x < owedR S p w) : ∀ n : Nat, (n : Int) ≤ S 3 2 → 0 ≤ ovN S p w x n ∧ (ovN S p w x n = 0 ∨ ovN S p w x n = ovN S p w x 0 - cnR S p w n) := by
  intro n
  induction n with
  | zero =>
    intro _
    have := ov_rng hH hx
    refine ⟨this.1, Or.inr ?_⟩
    simp [cnR, sm]
  | succ n ih =>
    intro hn
    have h1 := ih (by omega)
    have h2 := cut_lt hH hx (d := n) ⟨by omega, by omega⟩
    unfold cnR at *
    have e : ovN S p w x (n + 1) = if inr S p w n = true ∧ 0 < ovN S p w x n ∧ cutR S p w x n < S 30 n then ovN S p w x n - 1 else ovN S p w x n := rfl
    rw [e]
    simp only [sm]
    by_cases c : inr S p w n = true
    · simp only [c, true_and, if_true]
      split <;> omega
    · simp only [c, Bool.false_eq_true, false_and, if_false, Int.add_zero]
      exact h1
theorem ov_end {S : St} {p w x : Int} (hH : hou S) (hx : 0 ≤ x ∧ x < owedR S p w) : ovN S p w x (S 3 2).toNat = 0 := by
  have h0 := hH.nd
  have h1 := ov_rng hH hx
  have h2 := ov_step hH hx (S 3 2).toNat (by omega)
  omega
theorem ov_stay {S : St} {p w x : Int} {n : Nat} (h : ovN S p w x n ≤ 0) : ∀ m, ovN S p w x (n + m) = ovN S p w x n := by
  intro m
  induction m with
  | zero => rfl
  | succ m ih =>
    show ovN S p w x (n + m + 1) = _
    simp only [ovN]
    rw [ih, if_neg (fun c => by omega)]
section R66
variable {Q : MOut → MHp → Prop} {X : Nat × (Nat → Int32)} {s : Bool × Bool} {dh dl t : Nat} {M : Mem} {S : St}
theorem RR.f7 {M' : Mem} (h : RR S M) (hf : ∀ a, a ≠ 167 → M' a = M a) : RR S M' := h.sf (SF.rfl.row (n := 167) (by decide) hf)
theorem R175 {d p : Int} (hR : RR S M) (hH : hou S) (hd : 0 ≤ d ∧ d < S 3 2) (hp : wz p = p) : CL 175 [.ref 142, vI d, vI p] (mkh X s dh dl t M) Q ↔ Q (rI (bi (decide (S 29 d = p ∧ S 85 d = 0)))) (mkh X s dh dl t M) := by
  have n1 := hH.nd
  have v1 := hR.h.dbt d hd.1 hd.2
  have v2 := hR.c.aside d hd.1 (by omega)
  have b1 : 3 * d < 18 := by omega
  have b2 : 0 ≤ 3 * d := by omega
  have b3 : d < 6 := by omega
  have b4 : 0 ≤ d := by omega
  simp (disch := omega) only [↓x_al_0, ↓gr_142_16, ↓x_c, ↓x_il_1, ↓x_imul, ↓x_il_2, ↓x_ne, ↓gr_142_47, ↓x_ne0, ↓x_go, ↓x_irz, ↓ld_151, ↓ld_165, ↓n_175, ↓s_175_0, ↓s_175_25, ↓s_175_26, ↓pv_i, ↓pv_r, ↓pv_0, ↓pv_l, wz_pk, wz_ti, wz_wz, vI_wz, wz_id, wz_0, List.length_cons, List.length_nil, ↓reduceIte, true_and, and_true, Int.reduceLE, Int.reduceLT, Int.reduceEq, not_true_eq_false, not_false_eq_true, false_or, or_false, true_or, or_true, ite_not, Int.reduceNeg, Int32.reduceToInt, Nat.reduceAdd, Nat.reduceLeDiff, Nat.reduceLT, Nat.reduceEqDiff, Int.reduceAdd, Int.reduceSub, Int.reduceMul, Nat.zero_le, pk_po_ne, pk_po_eq, pk_po_ix, rI, ne_eq, v1, v2, wz_of v1, wz_of v2, b1, b2, b3, b4, hp]
  clear hR hH
  unfold bi
  grind
theorem R176 {p w c : Int} {q : Int → Int} (hR : RR S M) (hH : hou S) (hp : wz p = p) (hw : wz w = w) (hc : 0 ≤ c ∧ c ≤ 200000) (ho : 0 < owedR S p w) (hq : ∀ d, 0 ≤ d → d < S 3 2 → pk M 167 d = q d)
    (hQ : ∀ M', (∀ a, a ≠ 167 → M' a = M a) → (∀ d, 0 ≤ d → d < S 3 2 → pk M' 167 d = payG S p w (min c (owedR S p w)) q d) → Q (rI (c - min c (owedR S p w))) (mkh X s dh dl t M')) : CL 176 [.ref 142, vI p, vI w, vI c] (mkh X s dh dl t M) Q := by
  have h1 := hH.nd
  have h2 := owedR_rng (p := p) (w := w) hH
  have gnd := hR.h.nd
  have hin : ∀ n : Int, inr S p w n = true ↔ ((S 29 n = p ∧ S 85 n = 0) ∧ S 31 n = w) := fun n => by simp [inr, and_assoc]
  -- the last: one each
  have last : c < owedR S p w → ∀ M', (∀ a, a ≠ 167 → M' a = M a) → (∀ d, 0 ≤ d → d < ((0 : Nat) : Int) → pk M' 167 d = payG S p w c q d) → (∀ d, ((0 : Nat) : Int) ≤ d → d < S 3 2 → pk M' 167 d = if inr S p w d = true then cutR S p w c d else q d) → EX 176 (sx 176 188) [.ref 142, vI p, vI w, vI c, vI (owedR S p w), vI (ovN S p w c (0 : Nat)), vI ((0 : Nat) : Int)] [] (mkh X s dh dl t M') Q := by
    intro hlt
    have hx : 0 ≤ c ∧ c < owedR S p w := ⟨hc.1, hlt⟩
    have em : min c (owedR S p w) = c := by omega
    have fin : ∀ n : Nat, (n : Int) ≤ S 3 2 → ovN S p w c n = 0 → ∀ M', (∀ a, a ≠ 167 → M' a = M a) → (∀ d, 0 ≤ d → d < (n : Int) → pk M' 167 d = payG S p w c q d) → (∀ d, (n : Int) ≤ d → d < S 3 2 → pk M' 167 d = if inr S p w d = true then cutR S p w c d else q d) → ∀ k : Int, EX 176 (sx 176 174) [.ref 142, vI p, vI w, vI c, vI (owedR S p w), vI 0, vI k] [] (mkh X s dh dl t M') Q := by
      intro n hn hz M' f a1 a2 k
      have e := hQ M' f (fun d b1 b2 => by
        rw [em]
        by_cases hd : d < n
        · exact a1 d b1 hd
        · rw [a2 d (by omega) b2]
          have hz2 := ov_stay (m := d.toNat - n) (show ovN S p w c n ≤ 0 by omega)
          rw [show n + (d.toNat - n) = d.toNat by omega] at hz2
          unfold payG
          rw [hz2, hz]
          simp)
      rw [em, Int.sub_self] at e
      have e1 : ¬ owedR S p w ≤ c := by omega
      rw [s_176_174]
      simp (disch := omega) only [↓x_c, ↓x_is_4, ↓x_is_5, ↓x_il_5, ↓x_al_0, ↓gi_142_23, ↓x_ge, ↓x_il_4, ↓x_il_1, ↓c_175, ↓x_eq0, ↓gr_142_16, ↓x_imul, ↓x_iadd, ↓x_il_2, ↓x_ne, ↓x_go, ↓x_inc_5, ↓x_il_3, ↓x_is_6, ↓x_il_6, ↓x_eq, ↓gr_142_51, ↓x_lt, ↓x_i2l, ↓x_lmul, ↓x_ldiv, ↓x_l2i, ↓x_isub, ↓x_inc_6, ↓x_le0, ↓x_dup2, ↓x_ir, ↓ld_151, ↓st_151, ↓ld_167, ↓st_167, ↓n_176, ↓s_176_0, ↓s_176_56, ↓s_176_57, ↓s_176_66, ↓s_176_109, ↓s_176_135, ↓s_176_155, ↓s_176_168, ↓s_176_251, ↓s_176_265, ↓s_176_271, ↓s_176_274, ↓bk_v, ↓bk_n, ↓bk_r, ↓pv_i, ↓pv_r, ↓pv_0, ↓pv_l, wz_pk, wz_ti, wz_wz, vI_wz, wz_id, wz_0, List.length_cons, List.length_nil, ↓reduceIte, true_and, and_true, Int.reduceLE, Int.reduceLT, Int.reduceEq, not_true_eq_false, not_false_eq_true, false_or, or_false, true_or, or_true, ite_not, Int.reduceNeg, Int32.reduceToInt, Nat.reduceAdd, Nat.reduceLeDiff, Nat.reduceLT, Nat.reduceEqDiff, Int.reduceAdd, Int.reduceSub, Int.reduceMul, Nat.zero_le, pk_po_ne, pk_po_eq, pk_po_ix, rI, ne_eq, e1, if_false, if_true, Int.le_refl]
      exact e
    refine lp (n := (S 3 2).toNat) (fun n => ∀ M', (∀ a, a ≠ 167 → M' a = M a) → (∀ d, 0 ≤ d → d < (n : Int) → pk M' 167 d = payG S p w c q d) → (∀ d, (n : Int) ≤ d → d < S 3 2 → pk M' 167 d = if inr S p w d = true then cutR S p w c d else q d) → EX 176 (sx 176 188) [.ref 142, vI p, vI w, vI c, vI (owedR S p w), vI (ovN S p w c n), vI n] [] (mkh X s dh dl t M') Q) ?_ ?_
    · intro M' f a1 a2
      have g1 := (hR.f7 f).h.nd
      have e1 : S 3 2 ≤ (S 3 2).toNat := by omega
      have oe := ov_end hH hx
      have k := fin (S 3 2).toNat (by omega) oe M' f a1 a2 (S 3 2).toNat
      rw [oe, s_176_188]
      simp (disch := omega) only [↓x_c, ↓x_is_4, ↓x_is_5, ↓x_il_5, ↓x_al_0, ↓gi_142_23, ↓x_ge, ↓x_il_4, ↓x_il_1, ↓c_175, ↓x_eq0, ↓gr_142_16, ↓x_imul, ↓x_iadd, ↓x_il_2, ↓x_ne, ↓x_go, ↓x_inc_5, ↓x_il_3, ↓x_is_6, ↓x_il_6, ↓x_eq, ↓gr_142_51, ↓x_lt, ↓x_i2l, ↓x_lmul, ↓x_ldiv, ↓x_l2i, ↓x_isub, ↓x_inc_6, ↓x_le0, ↓x_dup2, ↓x_ir, ↓ld_151, ↓st_151, ↓ld_167, ↓st_167, ↓n_176, ↓s_176_0, ↓s_176_56, ↓s_176_57, ↓s_176_66, ↓s_176_109, ↓s_176_135, ↓s_176_155, ↓s_176_168, ↓s_176_251, ↓s_176_265, ↓s_176_271, ↓s_176_274, ↓bk_v, ↓bk_n, ↓bk_r, ↓pv_i, ↓pv_r, ↓pv_0, ↓pv_l, wz_pk, wz_ti, wz_wz, vI_wz, wz_id, wz_0, List.length_cons, List.length_nil, ↓reduceIte, true_and, and_true, Int.reduceLE, Int.reduceLT, Int.reduceEq, not_true_eq_false, not_false_eq_true, false_or, or_false, true_or, or_true, ite_not, Int.reduceNeg, Int32.reduceToInt, Nat.reduceAdd, Nat.reduceLeDiff, Nat.reduceLT, Nat.reduceEqDiff, Int.reduceAdd, Int.reduceSub, Int.reduceMul, Nat.zero_le, pk_po_ne, pk_po_eq, pk_po_ix, rI, ne_eq, g1, wz_of g1, e1, if_true]
      exact k
    · intro n hn ih M' f a1 a2
      have hR' := hR.f7 f
      have g1 := hR'.h.nd
      have e1 : ¬ S 3 2 ≤ n := by omega
      have os := ov_step hH hx n (by omega)
      by_cases hz : ovN S p w c n = 0
      · have k := fin n (by omega) hz M' f a1 a2 n
        rw [hz, s_176_188]
        simp (disch := omega) only [↓x_c, ↓x_is_4, ↓x_is_5, ↓x_il_5, ↓x_al_0, ↓gi_142_23, ↓x_ge, ↓x_il_4, ↓x_il_1, ↓c_175, ↓x_eq0, ↓gr_142_16, ↓x_imul, ↓x_iadd, ↓x_il_2, ↓x_ne, ↓x_go, ↓x_inc_5, ↓x_il_3, ↓x_is_6, ↓x_il_6, ↓x_eq, ↓gr_142_51, ↓x_lt, ↓x_i2l, ↓x_lmul, ↓x_ldiv, ↓x_l2i, ↓x_isub, ↓x_inc_6, ↓x_le0, ↓x_dup2, ↓x_ir, ↓ld_151, ↓st_151, ↓ld_167, ↓st_167, ↓n_176, ↓s_176_0, ↓s_176_56, ↓s_176_57, ↓s_176_66, ↓s_176_109, ↓s_176_135, ↓s_176_155, ↓s_176_168, ↓s_176_251, ↓s_176_265, ↓s_176_271, ↓s_176_274, ↓bk_v, ↓bk_n, ↓bk_r, ↓pv_i, ↓pv_r, ↓pv_0, ↓pv_l, wz_pk, wz_ti, wz_wz, vI_wz, wz_id, wz_0, List.length_cons, List.length_nil, ↓reduceIte, true_and, and_true, Int.reduceLE, Int.reduceLT, Int.reduceEq, not_true_eq_false, not_false_eq_true, false_or, or_false, true_or, or_true, ite_not, Int.reduceNeg, Int32.reduceToInt, Nat.reduceAdd, Nat.reduceLeDiff, Nat.reduceLT, Nat.reduceEqDiff, Int.reduceAdd, Int.reduceSub, Int.reduceMul, Nat.zero_le, pk_po_ne, pk_po_eq, pk_po_ix, rI, ne_eq, g1, wz_of g1, e1, if_true, if_false, Int.le_refl]
        exact k
      · have or := ov_rng hH hx
        have cr : cnR S p w (S 3 2).toNat ≤ ((S 3 2).toNat : Int) * 1 := sm_le (fun i _ => by split <;> omega)
        have cr2 : (n : Int) * 0 ≤ cnR S p w n := sm_ge (fun i _ => by split <;> omega)
        have e2 : ¬ ovN S p w c n ≤ 0 := by omega
        have b1 : 3 * (n : Int) + 2 < 18 := by omega
        have b2 : 0 ≤ 3 * (n : Int) + 2 := by omega
        have b3 : 3 * (n : Int) + 1 < 18 := by omega
        have b4 : 0 ≤ 3 * (n : Int) + 1 := by omega
        have b7 : (n : Int) < 6 := by omega
        have b8 : (0 : Int) ≤ n := by omega
        have v2 := hR'.h.amt n (by omega) (by omega)
        have v3 := hR'.h.writ n (by omega) (by omega)
        have r3 := a2 n (by omega) (by omega)
        have r5 := hH.amt n (by omega) (by omega)
        have r6 := cutR_rng (p := p) (w := w) (x := c) (d := n) hH ⟨by omega, by omega⟩ ho ⟨by omega, by omega⟩
        have cl := cut_lt hH hx (d := n) ⟨by omega, by omega⟩
        simp only [ovN] at ih
        by_cases c1 : inr S p w n = true
        · rw [if_pos c1] at r3
          rw [if_pos ⟨c1, by omega, cl⟩] at ih
          obtain ⟨c3, c4⟩ := (hin n).mp c1
          have ih2 := ih (po M' 167 n (cutR S p w c n + 1)) (po_fr f) (fun d b1 b2 => by
            rw [pk_po]
            split
            · rename_i h
              rw [h.2, payG, if_pos c1, if_pos (by rw [Int.toNat_natCast]; omega)]
              exact wz_id (by omega) (by omega)
            · exact a1 d b1 (by omega)) (fun d b1 b2 => by
            rw [pk_po_ix (by omega)]
            exact a2 d (by omega) b2)
          have c5 : ¬ cutR S p w c n = S 30 n := by omega
          rw [s_176_188]
          simp (disch := omega) only [↓x_c, ↓x_is_4, ↓x_is_5, ↓x_il_5, ↓x_al_0, ↓gi_142_23, ↓x_ge, ↓x_il_4, ↓x_il_1, ↓c_175, ↓x_eq0, ↓gr_142_16, ↓x_imul, ↓x_iadd, ↓x_il_2, ↓x_ne, ↓x_go, ↓x_inc_5, ↓x_il_3, ↓x_is_6, ↓x_il_6, ↓x_eq, ↓gr_142_51, ↓x_lt, ↓x_i2l, ↓x_lmul, ↓x_ldiv, ↓x_l2i, ↓x_isub, ↓x_inc_6, ↓x_le0, ↓x_dup2, ↓x_ir, ↓ld_151, ↓st_151, ↓ld_167, ↓st_167, ↓n_176, ↓s_176_0, ↓s_176_56, ↓s_176_57, ↓s_176_66, ↓s_176_109, ↓s_176_135, ↓s_176_155, ↓s_176_168, ↓s_176_251, ↓s_176_265, ↓s_176_271, ↓s_176_274, ↓bk_v, ↓bk_n, ↓bk_r, ↓pv_i, ↓pv_r, ↓pv_0, ↓pv_l, wz_pk, wz_ti, wz_wz, vI_wz, wz_id, wz_0, List.length_cons, List.length_nil, ↓reduceIte, true_and, and_true, Int.reduceLE, Int.reduceLT, Int.reduceEq, not_true_eq_false, not_false_eq_true, false_or, or_false, true_or, or_true, ite_not, Int.reduceNeg, Int32.reduceToInt, Nat.reduceAdd, Nat.reduceLeDiff, Nat.reduceLT, Nat.reduceEqDiff, Int.reduceAdd, Int.reduceSub, Int.reduceMul, Nat.zero_le, pk_po_ne, pk_po_eq, pk_po_ix, rI, ne_eq, g1, wz_of g1, e1, e2, if_true, if_false, ↓R175 hR' hH (show 0 ≤ (n : Int) ∧ (n : Int) < S 3 2 by omega) hp, bi_wz, bi_0, decide_eq_false_iff_not, c3, not_true_eq_false, v2, v3, wz_of v2, wz_of v3, r3, b1, b2, b3, b4, b7, b8, c4, hw, c5]
          exact ih2
        · rw [if_neg c1] at r3
          rw [if_neg (fun h => c1 h.1)] at ih
          have ih2 := ih M' f (fun d b1 b2 => by
            by_cases hd : d = n
            · subst hd
              rw [payG, if_neg c1]
              exact r3
            · exact a1 d b1 (by omega)) (fun d b1 b2 => a2 d (by omega) b2)
          rw [hin] at c1
          rw [s_176_188]
          simp (disch := omega) only [↓x_c, ↓x_is_4, ↓x_is_5, ↓x_il_5, ↓x_al_0, ↓gi_142_23, ↓x_ge, ↓x_il_4, ↓x_il_1, ↓c_175, ↓x_eq0, ↓gr_142_16, ↓x_imul, ↓x_iadd, ↓x_il_2, ↓x_ne, ↓x_go, ↓x_inc_5, ↓x_il_3, ↓x_is_6, ↓x_il_6, ↓x_eq, ↓gr_142_51, ↓x_lt, ↓x_i2l, ↓x_lmul, ↓x_ldiv, ↓x_l2i, ↓x_isub, ↓x_inc_6, ↓x_le0, ↓x_dup2, ↓x_ir, ↓ld_151, ↓st_151, ↓ld_167, ↓st_167, ↓n_176, ↓s_176_0, ↓s_176_56, ↓s_176_57, ↓s_176_66, ↓s_176_109, ↓s_176_135, ↓s_176_155, ↓s_176_168, ↓s_176_251, ↓s_176_265, ↓s_176_271, ↓s_176_274, ↓bk_v, ↓bk_n, ↓bk_r, ↓pv_i, ↓pv_r, ↓pv_0, ↓pv_l, wz_pk, wz_ti, wz_wz, vI_wz, wz_id, wz_0, List.length_cons, List.length_nil, ↓reduceIte, true_and, and_true, Int.reduceLE, Int.reduceLT, Int.reduceEq, not_true_eq_false, not_false_eq_true, false_or, or_false, true_or, or_true, ite_not, Int.reduceNeg, Int32.reduceToInt, Nat.reduceAdd, Nat.reduceLeDiff, Nat.reduceLT, Nat.reduceEqDiff, Int.reduceAdd, Int.reduceSub, Int.reduceMul, Nat.zero_le, pk_po_ne, pk_po_eq, pk_po_ix, rI, ne_eq, g1, wz_of g1, e1, e2, if_true, if_false, ↓R175 hR' hH (show 0 ≤ (n : Int) ∧ (n : Int) < S 3 2 by omega) hp, bi_wz, bi_0, decide_eq_false_iff_not, v2, v3, wz_of v2, wz_of v3, b1, b2, b3, b4, b7, b8, hw]
          clear hR hR' hH hQ hq ih fin a1 a2 f hin
          grind
  -- the parts
  have mid : ∀ M', (∀ a, a ≠ 167 → M' a = M a) → (∀ d, 0 ≤ d → d < ((0 : Nat) : Int) → pk M' 167 d = if inr S p w d = true then cutR S p w (min c (owedR S p w)) d else q d) → (∀ d, ((0 : Nat) : Int) ≤ d → d < S 3 2 → pk M' 167 d = q d) → EX 176 (sx 176 72) [.ref 142, vI p, vI w, vI c, vI (owedR S p w), vI (c - sm (fun d => if inr S p w d = true then cutR S p w (min c (owedR S p w)) d else 0) (0 : Nat)), vI ((0 : Nat) : Int)] [] (mkh X s dh dl t M') Q := by
    refine lp (n := (S 3 2).toNat) (fun n => ∀ M', (∀ a, a ≠ 167 → M' a = M a) → (∀ d, 0 ≤ d → d < (n : Int) → pk M' 167 d = if inr S p w d = true then cutR S p w (min c (owedR S p w)) d else q d) → (∀ d, (n : Int) ≤ d → d < S 3 2 → pk M' 167 d = q d) → EX 176 (sx 176 72) [.ref 142, vI p, vI w, vI c, vI (owedR S p w), vI (c - sm (fun d => if inr S p w d = true then cutR S p w (min c (owedR S p w)) d else 0) n), vI n] [] (mkh X s dh dl t M') Q) ?_ ?_
    · intro M' f a1 a2
      have g1 := (hR.f7 f).h.nd
      have e1 : S 3 2 ≤ (S 3 2).toNat := by omega
      rw [s_176_72]
      by_cases hlt : c < owedR S p w
      · have em : min c (owedR S p w) = c := by omega
        rw [em] at a1
        have k := last hlt M' f (fun d b1 b2 => by omega) (fun d b1 b2 => a1 d b1 (by omega))
        have e2 : ¬ owedR S p w ≤ c := by omega
        rw [em]
        have e3 : c - sm (fun d => if inr S p w d = true then cutR S p w c d else 0) (S 3 2).toNat = ovN S p w c 0 := rfl
        have os := ov_rng hH ⟨hc.1, hlt⟩
        have cr : cnR S p w (S 3 2).toNat ≤ ((S 3 2).toNat : Int) * 1 := sm_le (fun i _ => by split <;> omega)
        rw [e3]
        by_cases hz : ovN S p w c 0 = 0
        · have e := hQ M' f (fun d b1 b2 => by
            rw [em, a1 d b1 (by omega)]
            have hz2 := ov_stay (m := d.toNat) (show ovN S p w c 0 ≤ 0 by omega)
            rw [show 0 + d.toNat = d.toNat by omega] at hz2
            unfold payG
            rw [hz2, hz]
            simp)
          rw [em, Int.sub_self] at e
          rw [hz]
          simp (disch := omega) only [↓x_c, ↓x_is_4, ↓x_is_5, ↓x_il_5, ↓x_al_0, ↓gi_142_23, ↓x_ge, ↓x_il_4, ↓x_il_1, ↓c_175, ↓x_eq0, ↓gr_142_16, ↓x_imul, ↓x_iadd, ↓x_il_2, ↓x_ne, ↓x_go, ↓x_inc_5, ↓x_il_3, ↓x_is_6, ↓x_il_6, ↓x_eq, ↓gr_142_51, ↓x_lt, ↓x_i2l, ↓x_lmul, ↓x_ldiv, ↓x_l2i, ↓x_isub, ↓x_inc_6, ↓x_le0, ↓x_dup2, ↓x_ir, ↓ld_151, ↓st_151, ↓ld_167, ↓st_167, ↓n_176, ↓s_176_0, ↓s_176_56, ↓s_176_57, ↓s_176_66, ↓s_176_109, ↓s_176_135, ↓s_176_155, ↓s_176_168, ↓s_176_174, ↓s_176_251, ↓s_176_265, ↓s_176_271, ↓s_176_274, ↓bk_v, ↓bk_n, ↓bk_r, ↓pv_i, ↓pv_r, ↓pv_0, ↓pv_l, wz_pk, wz_ti, wz_wz, vI_wz, wz_id, wz_0, List.length_cons, List.length_nil, ↓reduceIte, true_and, and_true, Int.reduceLE, Int.reduceLT, Int.reduceEq, not_true_eq_false, not_false_eq_true, false_or, or_false, true_or, or_true, ite_not, Int.reduceNeg, Int32.reduceToInt, Nat.reduceAdd, Nat.reduceLeDiff, Nat.reduceLT, Nat.reduceEqDiff, Int.reduceAdd, Int.reduceSub, Int.reduceMul, Nat.zero_le, pk_po_ne, pk_po_eq, pk_po_ix, rI, ne_eq, g1, wz_of g1, e1, e2, if_true, if_false, Int.le_refl]
          exact e
        · have e4 : ¬ ovN S p w c 0 ≤ 0 := by omega
          simp (disch := omega) only [↓x_c, ↓x_is_4, ↓x_is_5, ↓x_il_5, ↓x_al_0, ↓gi_142_23, ↓x_ge, ↓x_il_4, ↓x_il_1, ↓c_175, ↓x_eq0, ↓gr_142_16, ↓x_imul, ↓x_iadd, ↓x_il_2, ↓x_ne, ↓x_go, ↓x_inc_5, ↓x_il_3, ↓x_is_6, ↓x_il_6, ↓x_eq, ↓gr_142_51, ↓x_lt, ↓x_i2l, ↓x_lmul, ↓x_ldiv, ↓x_l2i, ↓x_isub, ↓x_inc_6, ↓x_le0, ↓x_dup2, ↓x_ir, ↓ld_151, ↓st_151, ↓ld_167, ↓st_167, ↓n_176, ↓s_176_0, ↓s_176_56, ↓s_176_57, ↓s_176_66, ↓s_176_109, ↓s_176_135, ↓s_176_155, ↓s_176_168, ↓s_176_174, ↓s_176_251, ↓s_176_265, ↓s_176_271, ↓s_176_274, ↓bk_v, ↓bk_n, ↓bk_r, ↓pv_i, ↓pv_r, ↓pv_0, ↓pv_l, wz_pk, wz_ti, wz_wz, vI_wz, wz_id, wz_0, List.length_cons, List.length_nil, ↓reduceIte, true_and, and_true, Int.reduceLE, Int.reduceLT, Int.reduceEq, not_true_eq_false, not_false_eq_true, false_or, or_false, true_or, or_true, ite_not, Int.reduceNeg, Int32.reduceToInt, Nat.reduceAdd, Nat.reduceLeDiff, Nat.reduceLT, Nat.reduceEqDiff, Int.reduceAdd, Int.reduceSub, Int.reduceMul, Nat.zero_le, pk_po_ne, pk_po_eq, pk_po_ix, rI, ne_eq, g1, wz_of g1, e1, e2, e4, if_true, if_false]
          exact k
      · have em : min c (owedR S p w) = owedR S p w := by omega
        have ec : ∀ d : Int, 0 ≤ d → d < S 3 2 → cutR S p w (owedR S p w) d = S 30 d := fun d _ _ => by
          unfold cutR
          rw [Int.mul_comm]
          exact Int.mul_ediv_cancel _ (by omega)
        have es : sm (fun d => if inr S p w d = true then cutR S p w (owedR S p w) d else 0) (S 3 2).toNat = owedR S p w := by
          unfold owedR
          apply sm_congr
          intro i hi
          have := ec i (by omega) (by omega)
          unfold owedR at this
          simp only [this]
        have e := hQ M' f (fun d b1 b2 => by
          rw [em, a1 d b1 (by omega), em]
          unfold payG
          have := ec d b1 b2
          split
          · rw [if_neg (by omega)]
          · rfl)
        rw [em] at e
        rw [em, es]
        have e2 : owedR S p w ≤ c := by omega
        simp (disch := omega) only [↓x_c, ↓x_is_4, ↓x_is_5, ↓x_il_5, ↓x_al_0, ↓gi_142_23, ↓x_ge, ↓x_il_4, ↓x_il_1, ↓c_175, ↓x_eq0, ↓gr_142_16, ↓x_imul, ↓x_iadd, ↓x_il_2, ↓x_ne, ↓x_go, ↓x_inc_5, ↓x_il_3, ↓x_is_6, ↓x_il_6, ↓x_eq, ↓gr_142_51, ↓x_lt, ↓x_i2l, ↓x_lmul, ↓x_ldiv, ↓x_l2i, ↓x_isub, ↓x_inc_6, ↓x_le0, ↓x_dup2, ↓x_ir, ↓ld_151, ↓st_151, ↓ld_167, ↓st_167, ↓n_176, ↓s_176_0, ↓s_176_56, ↓s_176_57, ↓s_176_66, ↓s_176_109, ↓s_176_135, ↓s_176_155, ↓s_176_168, ↓s_176_174, ↓s_176_251, ↓s_176_265, ↓s_176_271, ↓s_176_274, ↓bk_v, ↓bk_n, ↓bk_r, ↓pv_i, ↓pv_r, ↓pv_0, ↓pv_l, wz_pk, wz_ti, wz_wz, vI_wz, wz_id, wz_0, List.length_cons, List.length_nil, ↓reduceIte, true_and, and_true, Int.reduceLE, Int.reduceLT, Int.reduceEq, not_true_eq_false, not_false_eq_true, false_or, or_false, true_or, or_true, ite_not, Int.reduceNeg, Int32.reduceToInt, Nat.reduceAdd, Nat.reduceLeDiff, Nat.reduceLT, Nat.reduceEqDiff, Int.reduceAdd, Int.reduceSub, Int.reduceMul, Nat.zero_le, pk_po_ne, pk_po_eq, pk_po_ix, rI, ne_eq, g1, wz_of g1, e1, e2, if_true]
        exact e
    · intro n hn ih M' f a1 a2
      have hR' := hR.f7 f
      have g1 := hR'.h.nd
      have e1 : ¬ S 3 2 ≤ n := by omega
      have b1 : 3 * (n : Int) + 2 < 18 := by omega
      have b2 : 0 ≤ 3 * (n : Int) + 2 := by omega
      have b3 : 3 * (n : Int) + 1 < 18 := by omega
      have b4 : 0 ≤ 3 * (n : Int) + 1 := by omega
      have b7 : (n : Int) < 6 := by omega
      have b8 : (0 : Int) ≤ n := by omega
      have v2 := hR'.h.amt n (by omega) (by omega)
      have v3 := hR'.h.writ n (by omega) (by omega)
      have r5 := hH.amt n (by omega) (by omega)
      have hx2 : 0 ≤ min c (owedR S p w) ∧ min c (owedR S p w) ≤ owedR S p w := by omega
      have r6 := cutR_rng (p := p) (w := w) (x := min c (owedR S p w)) (d := n) hH hx2 ho ⟨by omega, by omega⟩
      have r7 := mulR_rng (x := min c (owedR S p w)) (d := n) hH ⟨by omega, by omega⟩ ⟨by omega, by omega⟩
      have s1 : (n : Int) * 0 ≤ sm (fun d => if inr S p w d = true then cutR S p w (min c (owedR S p w)) d else 0) n := sm_ge (fun i hi => by
        have := cutR_rng (p := p) (w := w) (x := min c (owedR S p w)) (d := i) hH hx2 ho ⟨by omega, by omega⟩
        split <;> omega)
      have s2 : sm (fun d => if inr S p w d = true then cutR S p w (min c (owedR S p w)) d else 0) n ≤ (n : Int) * 9999 := sm_le (fun i hi => by
        have := cutR_rng (p := p) (w := w) (x := min c (owedR S p w)) (d := i) hH hx2 ho ⟨by omega, by omega⟩
        have := hH.amt i (by omega) (by omega)
        split <;> omega)
      simp only [sm] at ih
      generalize hX : sm (fun d => if inr S p w d = true then cutR S p w (min c (owedR S p w)) d else 0) n = sx0 at *
      rw [s_176_72]
      by_cases c1 : inr S p w n = true
      · rw [if_pos c1] at ih
        obtain ⟨c3, c4⟩ := (hin n).mp c1
        have ih2 := ih (po M' 167 n (cutR S p w (min c (owedR S p w)) n)) (po_fr f) (fun d b1 b2 => by
          rw [pk_po]
          split
          · rename_i h
            rw [h.2, if_pos c1]
            exact wz_id (by omega) (by omega)
          · exact a1 d b1 (by omega)) (fun d b1 b2 => by
          rw [pk_po_ix (by omega)]
          exact a2 d (by omega) b2)
        rw [show c - (sx0 + cutR S p w (min c (owedR S p w)) n) = c - sx0 - cutR S p w (min c (owedR S p w)) n by omega] at ih2
        by_cases hlt : c < owedR S p w
        · have em : min c (owedR S p w) = c := by omega
          rw [em] at ih2 r6 r7
          have t1 : wy (c * S 30 n) = c * S 30 n := wy_id (by omega) (by omega)
          have t2 : wy (owedR S p w) = owedR S p w := wy_id (by omega) (by omega)
          have t3 : Int.tdiv (c * S 30 n) (owedR S p w) = cutR S p w c n := Int.tdiv_eq_ediv_of_nonneg r7.1
          have t4 : ¬ owedR S p w = 0 := by omega
          have t5 : wy (cutR S p w c n) = cutR S p w c n := wy_id (by omega) (by omega)
          have e2 : c < owedR S p w := hlt
          simp (disch := omega) only [↓x_c, ↓x_is_4, ↓x_is_5, ↓x_il_5, ↓x_al_0, ↓gi_142_23, ↓x_ge, ↓x_il_4, ↓x_il_1, ↓c_175, ↓x_eq0, ↓gr_142_16, ↓x_imul, ↓x_iadd, ↓x_il_2, ↓x_ne, ↓x_go, ↓x_inc_5, ↓x_il_3, ↓x_is_6, ↓x_il_6, ↓x_eq, ↓gr_142_51, ↓x_lt, ↓x_i2l, ↓x_lmul, ↓x_ldiv, ↓x_l2i, ↓x_isub, ↓x_inc_6, ↓x_le0, ↓x_dup2, ↓x_ir, ↓ld_151, ↓st_151, ↓ld_167, ↓st_167, ↓n_176, ↓s_176_0, ↓s_176_56, ↓s_176_57, ↓s_176_66, ↓s_176_109, ↓s_176_135, ↓s_176_155, ↓s_176_168, ↓s_176_251, ↓s_176_265, ↓s_176_271, ↓s_176_274, ↓bk_v, ↓bk_n, ↓bk_r, ↓pv_i, ↓pv_r, ↓pv_0, ↓pv_l, wz_pk, wz_ti, wz_wz, vI_wz, wz_id, wz_0, List.length_cons, List.length_nil, ↓reduceIte, true_and, and_true, Int.reduceLE, Int.reduceLT, Int.reduceEq, not_true_eq_false, not_false_eq_true, false_or, or_false, true_or, or_true, ite_not, Int.reduceNeg, Int32.reduceToInt, Nat.reduceAdd, Nat.reduceLeDiff, Nat.reduceLT, Nat.reduceEqDiff, Int.reduceAdd, Int.reduceSub, Int.reduceMul, Nat.zero_le, pk_po_ne, pk_po_eq, pk_po_ix, rI, ne_eq, g1, wz_of g1, e1, e2, if_true, if_false, ↓R175 hR' hH (show 0 ≤ (n : Int) ∧ (n : Int) < S 3 2 by omega) hp, bi_wz, bi_0, decide_eq_false_iff_not, c3, not_true_eq_false, v2, v3, wz_of v2, wz_of v3, b1, b2, b3, b4, b7, b8, c4, hw, t1, t2, t3, t4, t5]
          exact ih2
        · have em : min c (owedR S p w) = owedR S p w := by omega
          have ec : cutR S p w (owedR S p w) n = S 30 n := by
            unfold cutR
            rw [Int.mul_comm]
            exact Int.mul_ediv_cancel _ (by omega)
          rw [em, ec] at ih2
          have e2 : ¬ c < owedR S p w := hlt
          simp (disch := omega) only [↓x_c, ↓x_is_4, ↓x_is_5, ↓x_il_5, ↓x_al_0, ↓gi_142_23, ↓x_ge, ↓x_il_4, ↓x_il_1, ↓c_175, ↓x_eq0, ↓gr_142_16, ↓x_imul, ↓x_iadd, ↓x_il_2, ↓x_ne, ↓x_go, ↓x_inc_5, ↓x_il_3, ↓x_is_6, ↓x_il_6, ↓x_eq, ↓gr_142_51, ↓x_lt, ↓x_i2l, ↓x_lmul, ↓x_ldiv, ↓x_l2i, ↓x_isub, ↓x_inc_6, ↓x_le0, ↓x_dup2, ↓x_ir, ↓ld_151, ↓st_151, ↓ld_167, ↓st_167, ↓n_176, ↓s_176_0, ↓s_176_56, ↓s_176_57, ↓s_176_66, ↓s_176_109, ↓s_176_135, ↓s_176_155, ↓s_176_168, ↓s_176_251, ↓s_176_265, ↓s_176_271, ↓s_176_274, ↓bk_v, ↓bk_n, ↓bk_r, ↓pv_i, ↓pv_r, ↓pv_0, ↓pv_l, wz_pk, wz_ti, wz_wz, vI_wz, wz_id, wz_0, List.length_cons, List.length_nil, ↓reduceIte, true_and, and_true, Int.reduceLE, Int.reduceLT, Int.reduceEq, not_true_eq_false, not_false_eq_true, false_or, or_false, true_or, or_true, ite_not, Int.reduceNeg, Int32.reduceToInt, Nat.reduceAdd, Nat.reduceLeDiff, Nat.reduceLT, Nat.reduceEqDiff, Int.reduceAdd, Int.reduceSub, Int.reduceMul, Nat.zero_le, pk_po_ne, pk_po_eq, pk_po_ix, rI, ne_eq, g1, wz_of g1, e1, e2, if_true, if_false, ↓R175 hR' hH (show 0 ≤ (n : Int) ∧ (n : Int) < S 3 2 by omega) hp, bi_wz, bi_0, decide_eq_false_iff_not, c3, not_true_eq_false, v2, v3, wz_of v2, wz_of v3, b1, b2, b3, b4, b7, b8, c4, hw]
          exact ih2
      · rw [if_neg c1, Int.add_zero] at ih
        have ih2 := ih M' f (fun d b1 b2 => by
          by_cases hd : d = n
          · subst hd
            rw [if_neg c1]
            exact a2 _ (by omega) (by omega)
          · exact a1 d b1 (by omega)) (fun d b1 b2 => a2 d (by omega) b2)
        rw [hin] at c1
        simp (disch := omega) only [↓x_c, ↓x_is_4, ↓x_is_5, ↓x_il_5, ↓x_al_0, ↓gi_142_23, ↓x_ge, ↓x_il_4, ↓x_il_1, ↓c_175, ↓x_eq0, ↓gr_142_16, ↓x_imul, ↓x_iadd, ↓x_il_2, ↓x_ne, ↓x_go, ↓x_inc_5, ↓x_il_3, ↓x_is_6, ↓x_il_6, ↓x_eq, ↓gr_142_51, ↓x_lt, ↓x_i2l, ↓x_lmul, ↓x_ldiv, ↓x_l2i, ↓x_isub, ↓x_inc_6, ↓x_le0, ↓x_dup2, ↓x_ir, ↓ld_151, ↓st_151, ↓ld_167, ↓st_167, ↓n_176, ↓s_176_0, ↓s_176_56, ↓s_176_57, ↓s_176_66, ↓s_176_135, ↓s_176_155, ↓s_176_168, ↓s_176_251, ↓s_176_265, ↓s_176_271, ↓s_176_274, ↓bk_v, ↓bk_n, ↓bk_r, ↓pv_i, ↓pv_r, ↓pv_0, ↓pv_l, wz_pk, wz_ti, wz_wz, vI_wz, wz_id, wz_0, List.length_cons, List.length_nil, ↓reduceIte, true_and, and_true, Int.reduceLE, Int.reduceLT, Int.reduceEq, not_true_eq_false, not_false_eq_true, false_or, or_false, true_or, or_true, ite_not, Int.reduceNeg, Int32.reduceToInt, Nat.reduceAdd, Nat.reduceLeDiff, Nat.reduceLT, Nat.reduceEqDiff, Int.reduceAdd, Int.reduceSub, Int.reduceMul, Nat.zero_le, pk_po_ne, pk_po_eq, pk_po_ix, rI, ne_eq, g1, wz_of g1, e1, if_true, if_false, ↓R175 hR' hH (show 0 ≤ (n : Int) ∧ (n : Int) < S 3 2 by omega) hp, bi_wz, bi_0, decide_eq_false_iff_not, v2, v3, wz_of v2, wz_of v3, b1, b2, b3, b4, b7, b8, hw]
        clear hR hR' hH hQ hq ih last a1 a2 f hin
        grind
  -- how much
  have key : EX 176 (sx 176 6) [.ref 142, vI p, vI w, vI c, vI (sm (fun d => if inr S p w d = true then S 30 d else 0) (0 : Nat)), vI ((0 : Nat) : Int), .null] [] (mkh X s dh dl t M) Q := by
    refine lp (n := (S 3 2).toNat) (fun n => EX 176 (sx 176 6) [.ref 142, vI p, vI w, vI c, vI (sm (fun d => if inr S p w d = true then S 30 d else 0) n), vI n, .null] [] (mkh X s dh dl t M) Q) ?_ ?_
    · have e1 : S 3 2 ≤ (S 3 2).toNat := by omega
      have k := mid M (fun _ _ => rfl) (fun d b1 b2 => by omega) (fun d b1 b2 => hq d (by omega) b2)
      simp only [sm, Int.sub_zero] at k
      rw [s_176_6]
      simp (disch := omega) only [↓x_c, ↓x_is_4, ↓x_is_5, ↓x_il_5, ↓x_al_0, ↓gi_142_23, ↓x_ge, ↓x_il_4, ↓x_il_1, ↓c_175, ↓x_eq0, ↓gr_142_16, ↓x_imul, ↓x_iadd, ↓x_il_2, ↓x_ne, ↓x_go, ↓x_inc_5, ↓x_il_3, ↓x_is_6, ↓x_il_6, ↓x_eq, ↓gr_142_51, ↓x_lt, ↓x_i2l, ↓x_lmul, ↓x_ldiv, ↓x_l2i, ↓x_isub, ↓x_inc_6, ↓x_le0, ↓x_dup2, ↓x_ir, ↓ld_151, ↓st_151, ↓ld_167, ↓st_167, ↓n_176, ↓s_176_0, ↓s_176_56, ↓s_176_57, ↓s_176_66, ↓s_176_109, ↓s_176_135, ↓s_176_155, ↓s_176_168, ↓s_176_251, ↓s_176_265, ↓s_176_271, ↓s_176_274, ↓bk_v, ↓bk_n, ↓bk_r, ↓pv_i, ↓pv_r, ↓pv_0, ↓pv_l, wz_pk, wz_ti, wz_wz, vI_wz, wz_id, wz_0, List.length_cons, List.length_nil, ↓reduceIte, true_and, and_true, Int.reduceLE, Int.reduceLT, Int.reduceEq, not_true_eq_false, not_false_eq_true, false_or, or_false, true_or, or_true, ite_not, Int.reduceNeg, Int32.reduceToInt, Nat.reduceAdd, Nat.reduceLeDiff, Nat.reduceLT, Nat.reduceEqDiff, Int.reduceAdd, Int.reduceSub, Int.reduceMul, Nat.zero_le, pk_po_ne, pk_po_eq, pk_po_ix, rI, ne_eq, gnd, wz_of gnd, e1, if_true]
      exact k
    · intro n hn ih
      have e1 : ¬ S 3 2 ≤ n := by omega
      have b1 : 3 * (n : Int) + 2 < 18 := by omega
      have b2 : 0 ≤ 3 * (n : Int) + 2 := by omega
      have b3 : 3 * (n : Int) + 1 < 18 := by omega
      have b4 : 0 ≤ 3 * (n : Int) + 1 := by omega
      have b7 : (n : Int) < 6 := by omega
      have b8 : (0 : Int) ≤ n := by omega
      have v2 := hR.h.amt n (by omega) (by omega)
      have v3 := hR.h.writ n (by omega) (by omega)
      have r5 := hH.amt n (by omega) (by omega)
      simp only [sm] at ih
      rw [s_176_6]
      by_cases c1 : inr S p w n = true
      · rw [if_pos c1] at ih
        obtain ⟨c3, c4⟩ := (hin n).mp c1
        simp (disch := omega) only [↓x_c, ↓x_is_4, ↓x_is_5, ↓x_il_5, ↓x_al_0, ↓gi_142_23, ↓x_ge, ↓x_il_4, ↓x_il_1, ↓c_175, ↓x_eq0, ↓gr_142_16, ↓x_imul, ↓x_iadd, ↓x_il_2, ↓x_ne, ↓x_go, ↓x_inc_5, ↓x_il_3, ↓x_is_6, ↓x_il_6, ↓x_eq, ↓gr_142_51, ↓x_lt, ↓x_i2l, ↓x_lmul, ↓x_ldiv, ↓x_l2i, ↓x_isub, ↓x_inc_6, ↓x_le0, ↓x_dup2, ↓x_ir, ↓ld_151, ↓st_151, ↓ld_167, ↓st_167, ↓n_176, ↓s_176_0, ↓s_176_56, ↓s_176_57, ↓s_176_109, ↓s_176_135, ↓s_176_155, ↓s_176_168, ↓s_176_251, ↓s_176_265, ↓s_176_271, ↓s_176_274, ↓bk_v, ↓bk_n, ↓bk_r, ↓pv_i, ↓pv_r, ↓pv_0, ↓pv_l, wz_pk, wz_ti, wz_wz, vI_wz, wz_id, wz_0, List.length_cons, List.length_nil, ↓reduceIte, true_and, and_true, Int.reduceLE, Int.reduceLT, Int.reduceEq, not_true_eq_false, not_false_eq_true, false_or, or_false, true_or, or_true, ite_not, Int.reduceNeg, Int32.reduceToInt, Nat.reduceAdd, Nat.reduceLeDiff, Nat.reduceLT, Nat.reduceEqDiff, Int.reduceAdd, Int.reduceSub, Int.reduceMul, Nat.zero_le, pk_po_ne, pk_po_eq, pk_po_ix, rI, ne_eq, gnd, wz_of gnd, e1, if_true, if_false, ↓R175 hR hH (show 0 ≤ (n : Int) ∧ (n : Int) < S 3 2 by omega) hp, bi_wz, bi_0, decide_eq_false_iff_not, c3, not_true_eq_false, v2, v3, wz_of v2, wz_of v3, b1, b2, b3, b4, b7, b8, c4, hw]
        exact ih
      · rw [if_neg c1] at ih
        rw [hin] at c1
        simp (disch := omega) only [↓x_c, ↓x_is_4, ↓x_is_5, ↓x_il_5, ↓x_al_0, ↓gi_142_23, ↓x_ge, ↓x_il_4, ↓x_il_1, ↓c_175, ↓x_eq0, ↓gr_142_16, ↓x_imul, ↓x_iadd, ↓x_il_2, ↓x_ne, ↓x_go, ↓x_inc_5, ↓x_il_3, ↓x_is_6, ↓x_il_6, ↓x_eq, ↓gr_142_51, ↓x_lt, ↓x_i2l, ↓x_lmul, ↓x_ldiv, ↓x_l2i, ↓x_isub, ↓x_inc_6, ↓x_le0, ↓x_dup2, ↓x_ir, ↓ld_151, ↓st_151, ↓ld_167, ↓st_167, ↓n_176, ↓s_176_0, ↓s_176_56, ↓s_176_57, ↓s_176_109, ↓s_176_135, ↓s_176_155, ↓s_176_168, ↓s_176_251, ↓s_176_265, ↓s_176_271, ↓s_176_274, ↓bk_v, ↓bk_n, ↓bk_r, ↓pv_i, ↓pv_r, ↓pv_0, ↓pv_l, wz_pk, wz_ti, wz_wz, vI_wz, wz_id, wz_0, List.length_cons, List.length_nil, ↓reduceIte, true_and, and_true, Int.reduceLE, Int.reduceLT, Int.reduceEq, not_true_eq_false, not_false_eq_true, false_or, or_false, true_or, or_true, ite_not, Int.reduceNeg, Int32.reduceToInt, Nat.reduceAdd, Nat.reduceLeDiff, Nat.reduceLT, Nat.reduceEqDiff, Int.reduceAdd, Int.reduceSub, Int.reduceMul, Nat.zero_le, pk_po_ne, pk_po_eq, pk_po_ix, rI, ne_eq, gnd, wz_of gnd, e1, if_true, if_false, ↓R175 hR hH (show 0 ≤ (n : Int) ∧ (n : Int) < S 3 2 by omega) hp, bi_wz, bi_0, decide_eq_false_iff_not, v2, v3, wz_of v2, wz_of v3, b1, b2, b3, b4, b7, b8, hw]
        clear hR hH hQ hq last mid hin
        grind
  simp only [↓x_c, ↓x_is_4, ↓x_is_5, ↓x_il_5, ↓x_al_0, ↓gi_142_23, ↓x_ge, ↓x_il_4, ↓x_il_1, ↓c_175, ↓x_eq0, ↓gr_142_16, ↓x_imul, ↓x_iadd, ↓x_il_2, ↓x_ne, ↓x_go, ↓x_inc_5, ↓x_il_3, ↓x_is_6, ↓x_il_6, ↓x_eq, ↓gr_142_51, ↓x_lt, ↓x_i2l, ↓x_lmul, ↓x_ldiv, ↓x_l2i, ↓x_isub, ↓x_inc_6, ↓x_le0, ↓x_dup2, ↓x_ir, ↓ld_151, ↓st_151, ↓ld_167, ↓st_167, ↓n_176, ↓s_176_0, ↓s_176_56, ↓s_176_57, ↓s_176_66, ↓s_176_109, ↓s_176_135, ↓s_176_155, ↓s_176_168, ↓s_176_251, ↓s_176_265, ↓s_176_271, ↓s_176_274, ↓bk_v, ↓bk_n, ↓bk_r, ↓pv_i, ↓pv_r, ↓pv_0, ↓pv_l, wz_pk, wz_ti, wz_wz, vI_wz, wz_id, wz_0, List.length_cons, List.length_nil, ↓reduceIte, true_and, and_true, Int.reduceLE, Int.reduceLT, Int.reduceEq, not_true_eq_false, not_false_eq_true, false_or, or_false, true_or, or_true, ite_not, Int.reduceNeg, Int32.reduceToInt, Nat.reduceAdd, Nat.reduceLeDiff, Nat.reduceLT, Nat.reduceEqDiff, Int.reduceAdd, Int.reduceSub, Int.reduceMul, Nat.zero_le, pk_po_ne, pk_po_eq, pk_po_ix, rI, ne_eq]
  exact key
def wrN (S : St) (p a : Int) (n : Nat) : Int := if nwN S p a n = -1 then 10000 else nwN S p a n
theorem R174w {p l a : Int} (hR : RR S M) (hH : hou S) (hp : wz p = p) (ha : wz a = a) (hQ : ∀ n, EX 174 (sx 174 125) [.ref 142, vI p, vI l, vI a, vI (wrN S p a (S 3 2).toNat), n] [] (mkh X s dh dl t M) Q) : EX 174 (sx 174 56) [.ref 142, vI p, vI l, vI a, vI 10000, vI 0] [] (mkh X s dh dl t M) Q := by
  have h1 := hH.nd
  have gnd := hR.h.nd
  have key : EX 174 (sx 174 56) [.ref 142, vI p, vI l, vI a, vI (wrN S p a (0 : Nat)), vI ((0 : Nat) : Int)] [] (mkh X s dh dl t M) Q := by
    refine lp (n := (S 3 2).toNat) (fun n => EX 174 (sx 174 56) [.ref 142, vI p, vI l, vI a, vI (wrN S p a n), vI n] [] (mkh X s dh dl t M) Q) ?_ ?_
    · have e1 : S 3 2 ≤ (S 3 2).toNat := by omega
      have k := hQ (vI (S 3 2).toNat)
      rw [s_174_56]
      simp (disch := omega) only [↓x_al_0, ↓x_il_1, ↓c_173, ↓gr_142_44, ↓c_165, ↓x_isub, ↓x_is_2, ↓x_il_2, ↓x_ge0, ↓x_c, ↓x_is_3, ↓x_il_3, ↓gi_142_23, ↓x_ge, ↓gr_142_51, ↓x_inc_3, ↓x_go, ↓x_is_4, ↓x_is_5, ↓x_il_5, ↓c_175, ↓x_eq0, ↓gr_142_16, ↓x_imul, ↓x_iadd, ↓x_le, ↓x_il_4, ↓x_inc_5, ↓x_ne, ↓c_176, ↓pi_142_52, ↓x_rt, ↓ld_151, ↓st_151, ↓ld_162, ↓st_162, ↓ld_167, ↓st_167, ↓n_174, ↓s_174_0, ↓s_174_23, ↓s_174_46, ↓s_174_119, ↓s_174_136, ↓s_174_151, ↓bk_v, ↓bk_n, ↓bk_r, ↓pv_i, ↓pv_r, ↓pv_0, ↓pv_l, wz_pk, wz_ti, wz_wz, vI_wz, wz_id, wz_0, List.length_cons, List.length_nil, ↓reduceIte, true_and, and_true, Int.reduceLE, Int.reduceLT, Int.reduceEq, not_true_eq_false, not_false_eq_true, false_or, or_false, true_or, or_true, ite_not, Int.reduceNeg, Int32.reduceToInt, Nat.reduceAdd, Nat.reduceLeDiff, Nat.reduceLT, Nat.reduceEqDiff, Int.reduceAdd, Int.reduceSub, Int.reduceMul, Nat.zero_le, pk_po_ne, pk_po_eq, pk_po_ix, rI, ne_eq, gnd, wz_of gnd, e1, if_true]
      exact k
    · intro n hn ih
      have e1 : ¬ S 3 2 ≤ n := by omega
      have b1 : 3 * (n : Int) + 2 < 18 := by omega
      have b2 : 0 ≤ 3 * (n : Int) + 2 := by omega
      have b7 : (n : Int) < 6 := by omega
      have b8 : (0 : Int) ≤ n := by omega
      have v3 := hR.h.writ n (by omega) (by omega)
      have r5 := hH.writ n (by omega) (by omega)
      have nr := nwN_rng (p := p) (a := a) hH n (by omega)
      have we : 0 ≤ wrN S p a n ∧ wrN S p a n ≤ 10000 := by unfold wrN; split <;> omega
      have es : wrN S p a (n + 1) = if (S 29 n = p ∧ S 85 n = 0) ∧ a < S 31 n ∧ S 31 n < wrN S p a n then S 31 n else wrN S p a n := by
        unfold wrN
        simp only [nwN]
        clear ih hQ hR
        grind
      rw [es] at ih
      rw [s_174_56]
      simp (disch := omega) only [↓x_al_0, ↓x_il_1, ↓c_173, ↓gr_142_44, ↓c_165, ↓x_isub, ↓x_is_2, ↓x_il_2, ↓x_ge0, ↓x_c, ↓x_is_3, ↓x_il_3, ↓gi_142_23, ↓x_ge, ↓gr_142_51, ↓x_inc_3, ↓x_go, ↓x_is_4, ↓x_is_5, ↓x_il_5, ↓c_175, ↓x_eq0, ↓gr_142_16, ↓x_imul, ↓x_iadd, ↓x_le, ↓x_il_4, ↓x_inc_5, ↓x_ne, ↓c_176, ↓pi_142_52, ↓x_rt, ↓ld_151, ↓st_151, ↓ld_162, ↓st_162, ↓ld_167, ↓st_167, ↓n_174, ↓s_174_0, ↓s_174_23, ↓s_174_46, ↓s_174_119, ↓s_174_136, ↓s_174_151, ↓bk_v, ↓bk_n, ↓bk_r, ↓pv_i, ↓pv_r, ↓pv_0, ↓pv_l, wz_pk, wz_ti, wz_wz, vI_wz, wz_id, wz_0, List.length_cons, List.length_nil, ↓reduceIte, true_and, and_true, Int.reduceLE, Int.reduceLT, Int.reduceEq, not_true_eq_false, not_false_eq_true, false_or, or_false, true_or, or_true, ite_not, Int.reduceNeg, Int32.reduceToInt, Nat.reduceAdd, Nat.reduceLeDiff, Nat.reduceLT, Nat.reduceEqDiff, Int.reduceAdd, Int.reduceSub, Int.reduceMul, Nat.zero_le, pk_po_ne, pk_po_eq, pk_po_ix, rI, ne_eq, gnd, wz_of gnd, e1, if_true, if_false, ↓R175 hR hH (show 0 ≤ (n : Int) ∧ (n : Int) < S 3 2 by omega) hp, bi_wz, bi_0, decide_eq_false_iff_not, v3, wz_of v3, b1, b2, b7, b8, ha]
      clear hR hH hQ
      grind
  exact key
theorem R174 {p : Int} (hR : RR S M) (hH : hou S) (hI : crs S 78) (hp : 0 ≤ p ∧ p < S 3 0)
    (hQ : ∀ M', SF M M' → pk M' 142 52 = (ranks S p).2.2 → (∀ d, 0 ≤ d → d < S 3 2 → pk M' 167 d = (ranks S p).2.1 d) → Q (.inl none) (mkh X s dh dl t M')) : CL 174 [.ref 142, vI p] (mkh X s dh dl t M) Q := by
  have h1 := hH.nd
  have h2 := hH.np
  have hcn := coin_rng hH hI hp
  have hst := c78_stage hI p hp.1 (by omega)
  have hfe := fees_rng (k := S 86 p) hH (by omega)
  have wp : wz p = p := wz_id (by omega) (by omega)
  have r0 : (rk S p 0).2.2 ≤ 120000 := by simp only [rk]; omega
  have key : ∀ M', SF M M' → (∀ d, 0 ≤ d → d < S 3 2 → pk M' 167 d = (rk S p (0 : Nat)).2.1 d) → ∀ a b, EX 174 (sx 174 48) [.ref 142, vI p, vI (rk S p (0 : Nat)).2.2, vI (rk S p (0 : Nat)).1, a, b] [] (mkh X s dh dl t M') Q := by
    refine lp (n := (S 3 2).toNat) (fun n => ∀ M', SF M M' → (∀ d, 0 ≤ d → d < S 3 2 → pk M' 167 d = (rk S p n).2.1 d) → ∀ a b, EX 174 (sx 174 48) [.ref 142, vI p, vI (rk S p n).2.2, vI (rk S p n).1, a, b] [] (mkh X s dh dl t M') Q) ?_ ?_
    · intro M' f a2 a b
      have c1 := rk_end (p := p) hH
      have rw1 := rk_w (p := p) hH (S 3 2).toNat
      have l1 := rk_left (p := p) hH (S 3 2).toNat
      have l2 := rk_left2 (p := p) hH (S 3 2).toNat
      rw [s_174_48]
      simp only [↓x_al_0, ↓x_il_1, ↓c_173, ↓gr_142_44, ↓c_165, ↓x_isub, ↓x_is_2, ↓x_il_2, ↓x_ge0, ↓x_c, ↓x_is_3, ↓x_il_3, ↓gi_142_23, ↓x_ge, ↓gr_142_51, ↓x_inc_3, ↓x_go, ↓x_is_4, ↓x_is_5, ↓x_il_5, ↓c_175, ↓x_eq0, ↓gr_142_16, ↓x_imul, ↓x_iadd, ↓x_le, ↓x_il_4, ↓x_inc_5, ↓x_ne, ↓c_176, ↓pi_142_52, ↓x_rt, ↓ld_151, ↓st_151, ↓ld_162, ↓st_162, ↓ld_167, ↓st_167, ↓n_174, ↓s_174_0, ↓s_174_23, ↓s_174_46, ↓s_174_119, ↓s_174_125, ↓s_174_136, ↓s_174_151, ↓bk_v, ↓bk_n, ↓bk_r, ↓pv_i, ↓pv_r, ↓pv_0, ↓pv_l, wz_pk, wz_ti, wz_wz, vI_wz, wz_id, wz_0, List.length_cons, List.length_nil, ↓reduceIte, true_and, and_true, Int.reduceLE, Int.reduceLT, Int.reduceEq, not_true_eq_false, not_false_eq_true, false_or, or_false, true_or, or_true, ite_not, Int.reduceNeg, Int32.reduceToInt, Nat.reduceAdd, Nat.reduceLeDiff, Nat.reduceLT, Nat.reduceEqDiff, Int.reduceAdd, Int.reduceSub, Int.reduceMul, Nat.zero_le, pk_po_ne, pk_po_eq, pk_po_ix, rI, ne_eq]
      refine R174w (hR.sf f) hH wp (wz_id (by omega) (by omega)) ?_
      intro k
      rw [show wrN S p (rk S p (S 3 2).toNat).1 (S 3 2).toNat = 10000 by unfold wrN; exact if_pos c1]
      have e := hQ (po M' 142 52 (rk S p (S 3 2).toNat).2.2) (f.pw (by decide) rfl (by decide)) (by rw [pk_po_eq]; exact wz_id (by omega) (by omega)) (fun d b1 b2 => by rw [pk_po_ne (by decide)]; exact a2 d b1 b2)
      rw [s_174_125]
      simp (disch := omega) only [↓x_al_0, ↓x_il_1, ↓c_173, ↓gr_142_44, ↓c_165, ↓x_isub, ↓x_is_2, ↓x_il_2, ↓x_ge0, ↓x_c, ↓x_is_3, ↓x_il_3, ↓gi_142_23, ↓x_ge, ↓gr_142_51, ↓x_inc_3, ↓x_go, ↓x_is_4, ↓x_is_5, ↓x_il_5, ↓c_175, ↓x_eq0, ↓gr_142_16, ↓x_imul, ↓x_iadd, ↓x_le, ↓x_il_4, ↓x_inc_5, ↓x_ne, ↓c_176, ↓pi_142_52, ↓x_rt, ↓ld_151, ↓st_151, ↓ld_162, ↓st_162, ↓ld_167, ↓st_167, ↓n_174, ↓s_174_0, ↓s_174_23, ↓s_174_46, ↓s_174_119, ↓s_174_125, ↓s_174_136, ↓s_174_151, ↓bk_v, ↓bk_n, ↓bk_r, ↓pv_i, ↓pv_r, ↓pv_0, ↓pv_l, wz_pk, wz_ti, wz_wz, vI_wz, wz_id, wz_0, List.length_cons, List.length_nil, ↓reduceIte, true_and, and_true, Int.reduceLE, Int.reduceLT, Int.reduceEq, not_true_eq_false, not_false_eq_true, false_or, or_false, true_or, or_true, ite_not, Int.reduceNeg, Int32.reduceToInt, Nat.reduceAdd, Nat.reduceLeDiff, Nat.reduceLT, Nat.reduceEqDiff, Int.reduceAdd, Int.reduceSub, Int.reduceMul, Nat.zero_le, pk_po_ne, pk_po_eq, pk_po_ix, rI, ne_eq]
      exact e
    · intro n hn ih M' f a2 a b
      have rw1 := rk_w (p := p) hH n
      have l1 := rk_left (p := p) hH n
      have l2 := rk_left2 (p := p) hH n
      rw [s_174_48]
      simp only [↓x_al_0, ↓x_il_1, ↓c_173, ↓gr_142_44, ↓c_165, ↓x_isub, ↓x_is_2, ↓x_il_2, ↓x_ge0, ↓x_c, ↓x_is_3, ↓x_il_3, ↓gi_142_23, ↓x_ge, ↓gr_142_51, ↓x_inc_3, ↓x_go, ↓x_is_4, ↓x_is_5, ↓x_il_5, ↓c_175, ↓x_eq0, ↓gr_142_16, ↓x_imul, ↓x_iadd, ↓x_le, ↓x_il_4, ↓x_inc_5, ↓x_ne, ↓c_176, ↓pi_142_52, ↓x_rt, ↓ld_151, ↓st_151, ↓ld_162, ↓st_162, ↓ld_167, ↓st_167, ↓n_174, ↓s_174_0, ↓s_174_23, ↓s_174_46, ↓s_174_119, ↓s_174_125, ↓s_174_136, ↓s_174_151, ↓bk_v, ↓bk_n, ↓bk_r, ↓pv_i, ↓pv_r, ↓pv_0, ↓pv_l, wz_pk, wz_ti, wz_wz, vI_wz, wz_id, wz_0, List.length_cons, List.length_nil, ↓reduceIte, true_and, and_true, Int.reduceLE, Int.reduceLT, Int.reduceEq, not_true_eq_false, not_false_eq_true, false_or, or_false, true_or, or_true, ite_not, Int.reduceNeg, Int32.reduceToInt, Nat.reduceAdd, Nat.reduceLeDiff, Nat.reduceLT, Nat.reduceEqDiff, Int.reduceAdd, Int.reduceSub, Int.reduceMul, Nat.zero_le, pk_po_ne, pk_po_eq, pk_po_ix, rI, ne_eq]
      refine R174w (hR.sf f) hH wp (wz_id (by omega) (by omega)) ?_
      intro k
      by_cases c1 : nw S p (rk S p n).1 = -1
      · rw [show wrN S p (rk S p n).1 (S 3 2).toNat = 10000 by unfold wrN; exact if_pos c1]
        have e2 := rk_stop c1 ((S 3 2).toNat - n)
        rw [show n + ((S 3 2).toNat - n) = (S 3 2).toNat by omega] at e2
        have e := hQ (po M' 142 52 (rk S p n).2.2) (f.pw (by decide) rfl (by decide)) (by rw [pk_po_eq, ranks, e2]; exact wz_id (by omega) (by omega)) (fun d b1 b2 => by rw [pk_po_ne (by decide), ranks, e2]; exact a2 d b1 b2)
        rw [s_174_125]
        simp (disch := omega) only [↓x_al_0, ↓x_il_1, ↓c_173, ↓gr_142_44, ↓c_165, ↓x_isub, ↓x_is_2, ↓x_il_2, ↓x_ge0, ↓x_c, ↓x_is_3, ↓x_il_3, ↓gi_142_23, ↓x_ge, ↓gr_142_51, ↓x_inc_3, ↓x_go, ↓x_is_4, ↓x_is_5, ↓x_il_5, ↓c_175, ↓x_eq0, ↓gr_142_16, ↓x_imul, ↓x_iadd, ↓x_le, ↓x_il_4, ↓x_inc_5, ↓x_ne, ↓c_176, ↓pi_142_52, ↓x_rt, ↓ld_151, ↓st_151, ↓ld_162, ↓st_162, ↓ld_167, ↓st_167, ↓n_174, ↓s_174_0, ↓s_174_23, ↓s_174_46, ↓s_174_119, ↓s_174_125, ↓s_174_136, ↓s_174_151, ↓bk_v, ↓bk_n, ↓bk_r, ↓pv_i, ↓pv_r, ↓pv_0, ↓pv_l, wz_pk, wz_ti, wz_wz, vI_wz, wz_id, wz_0, List.length_cons, List.length_nil, ↓reduceIte, true_and, and_true, Int.reduceLE, Int.reduceLT, Int.reduceEq, not_true_eq_false, not_false_eq_true, false_or, or_false, true_or, or_true, ite_not, Int.reduceNeg, Int32.reduceToInt, Nat.reduceAdd, Nat.reduceLeDiff, Nat.reduceLT, Nat.reduceEqDiff, Int.reduceAdd, Int.reduceSub, Int.reduceMul, Nat.zero_le, pk_po_ne, pk_po_eq, pk_po_ix, rI, ne_eq]
        exact e
      · rw [show wrN S p (rk S p n).1 (S 3 2).toNat = nw S p (rk S p n).1 by unfold wrN; exact if_neg c1]
        have nr : -1 ≤ nw S p (rk S p n).1 ∧ nw S p (rk S p n).1 ≤ 9999 := nwN_rng (p := p) (a := (rk S p n).1) hH (S 3 2).toNat (by omega)
        have e3 : ¬ nw S p (rk S p n).1 = 10000 := by omega
        simp only [rk] at ih
        rw [if_neg c1] at ih
        have ho := owedR_pos hH c1
        rw [s_174_125]
        simp (disch := omega) only [↓x_al_0, ↓x_il_1, ↓c_173, ↓gr_142_44, ↓c_165, ↓x_isub, ↓x_is_2, ↓x_il_2, ↓x_ge0, ↓x_c, ↓x_is_3, ↓x_il_3, ↓gi_142_23, ↓x_ge, ↓gr_142_51, ↓x_inc_3, ↓x_go, ↓x_is_4, ↓x_is_5, ↓x_il_5, ↓c_175, ↓x_eq0, ↓gr_142_16, ↓x_imul, ↓x_iadd, ↓x_le, ↓x_il_4, ↓x_inc_5, ↓x_ne, ↓c_176, ↓pi_142_52, ↓x_rt, ↓ld_151, ↓st_151, ↓ld_162, ↓st_162, ↓ld_167, ↓st_167, ↓n_174, ↓s_174_0, ↓s_174_23, ↓s_174_46, ↓s_174_119, ↓s_174_125, ↓s_174_136, ↓s_174_151, ↓bk_v, ↓bk_n, ↓bk_r, ↓pv_i, ↓pv_r, ↓pv_0, ↓pv_l, wz_pk, wz_ti, wz_wz, vI_wz, wz_id, wz_0, List.length_cons, List.length_nil, ↓reduceIte, true_and, and_true, Int.reduceLE, Int.reduceLT, Int.reduceEq, not_true_eq_false, not_false_eq_true, false_or, or_false, true_or, or_true, ite_not, Int.reduceNeg, Int32.reduceToInt, Nat.reduceAdd, Nat.reduceLeDiff, Nat.reduceLT, Nat.reduceEqDiff, Int.reduceAdd, Int.reduceSub, Int.reduceMul, Nat.zero_le, pk_po_ne, pk_po_eq, pk_po_ix, rI, ne_eq, e3, if_false]
        refine R176 (q := (rk S p n).2.1) (hR.sf f) hH wp (wz_id (by omega) (by omega)) ⟨by omega, by omega⟩ ho a2 ?_
        intro M2 f2 c2
        have ih2 := ih M2 (f.row (n := 167) (by decide) f2) c2
        simp only [↓x_al_0, ↓x_il_1, ↓c_173, ↓gr_142_44, ↓c_165, ↓x_isub, ↓x_is_2, ↓x_il_2, ↓x_ge0, ↓x_c, ↓x_is_3, ↓x_il_3, ↓gi_142_23, ↓x_ge, ↓gr_142_51, ↓x_inc_3, ↓x_go, ↓x_is_4, ↓x_is_5, ↓x_il_5, ↓c_175, ↓x_eq0, ↓gr_142_16, ↓x_imul, ↓x_iadd, ↓x_le, ↓x_il_4, ↓x_inc_5, ↓x_ne, ↓c_176, ↓pi_142_52, ↓x_rt, ↓ld_151, ↓st_151, ↓ld_162, ↓st_162, ↓ld_167, ↓st_167, ↓n_174, ↓s_174_0, ↓s_174_23, ↓s_174_46, ↓s_174_119, ↓s_174_125, ↓s_174_136, ↓s_174_151, ↓bk_v, ↓bk_n, ↓bk_r, ↓pv_i, ↓pv_r, ↓pv_0, ↓pv_l, wz_pk, wz_ti, wz_wz, vI_wz, wz_id, wz_0, List.length_cons, List.length_nil, ↓reduceIte, true_and, and_true, Int.reduceLE, Int.reduceLT, Int.reduceEq, not_true_eq_false, not_false_eq_true, false_or, or_false, true_or, or_true, ite_not, Int.reduceNeg, Int32.reduceToInt, Nat.reduceAdd, Nat.reduceLeDiff, Nat.reduceLT, Nat.reduceEqDiff, Int.reduceAdd, Int.reduceSub, Int.reduceMul, Nat.zero_le, pk_po_ne, pk_po_eq, pk_po_ix, rI, ne_eq]
        exact ih2 _ _
  have q4 : p < 4 := by omega
  have q5 : (0 : Int) ≤ p := hp.1
  have v0 := hR.c.stage p hp.1 (by omega)
  have w1 : wz (coin S p - feesTo S (S 86 p)) = coin S p - feesTo S (S 86 p) := wz_id (by omega) (by omega)
  have gnd := hR.h.nd
  have key0 : ∀ M', SF M M' → (∀ d, 0 ≤ d → d < ((0 : Nat) : Int) → pk M' 167 d = 0) → EX 174 (sx 174 25) [.ref 142, vI p, vI (rk S p 0).2.2, vI ((0 : Nat) : Int), .null, .null] [] (mkh X s dh dl t M') Q := by
    refine lp (n := (S 3 2).toNat) (fun n => ∀ M', SF M M' → (∀ d, 0 ≤ d → d < (n : Int) → pk M' 167 d = 0) → EX 174 (sx 174 25) [.ref 142, vI p, vI (rk S p 0).2.2, vI n, .null, .null] [] (mkh X s dh dl t M') Q) ?_ ?_
    · intro M' f a1
      have g1 := (hR.sf f).h.nd
      have e1 : S 3 2 ≤ (S 3 2).toNat := by omega
      have k := key M' f (fun d b1 b2 => by rw [a1 d b1 (by omega)]; rfl) .null .null
      rw [s_174_25]
      simp (disch := omega) only [↓x_al_0, ↓x_il_1, ↓c_173, ↓gr_142_44, ↓c_165, ↓x_isub, ↓x_is_2, ↓x_il_2, ↓x_ge0, ↓x_c, ↓x_is_3, ↓x_il_3, ↓gi_142_23, ↓x_ge, ↓gr_142_51, ↓x_inc_3, ↓x_go, ↓x_is_4, ↓x_is_5, ↓x_il_5, ↓c_175, ↓x_eq0, ↓gr_142_16, ↓x_imul, ↓x_iadd, ↓x_le, ↓x_il_4, ↓x_inc_5, ↓x_ne, ↓c_176, ↓pi_142_52, ↓x_rt, ↓ld_151, ↓st_151, ↓ld_162, ↓st_162, ↓ld_167, ↓st_167, ↓n_174, ↓s_174_0, ↓s_174_23, ↓s_174_46, ↓s_174_119, ↓s_174_125, ↓s_174_136, ↓s_174_151, ↓bk_v, ↓bk_n, ↓bk_r, ↓pv_i, ↓pv_r, ↓pv_0, ↓pv_l, wz_pk, wz_ti, wz_wz, vI_wz, wz_id, wz_0, List.length_cons, List.length_nil, ↓reduceIte, true_and, and_true, Int.reduceLE, Int.reduceLT, Int.reduceEq, not_true_eq_false, not_false_eq_true, false_or, or_false, true_or, or_true, ite_not, Int.reduceNeg, Int32.reduceToInt, Nat.reduceAdd, Nat.reduceLeDiff, Nat.reduceLT, Nat.reduceEqDiff, Int.reduceAdd, Int.reduceSub, Int.reduceMul, Nat.zero_le, pk_po_ne, pk_po_eq, pk_po_ix, rI, ne_eq, g1, wz_of g1, e1, if_true]
      exact k
    · intro n hn ih M' f a1
      have g1 := (hR.sf f).h.nd
      have e1 : ¬ S 3 2 ≤ n := by omega
      have b7 : (n : Int) < 6 := by omega
      have b8 : (0 : Int) ≤ n := by omega
      have ih2 := ih (po M' 167 n 0) (f.pw (by decide) rfl (by omega)) (fun d b1 b2 => by
        rw [pk_po]
        split
        · rfl
        · exact a1 d b1 (by omega))
      rw [s_174_25]
      simp (disch := omega) only [↓x_al_0, ↓x_il_1, ↓c_173, ↓gr_142_44, ↓c_165, ↓x_isub, ↓x_is_2, ↓x_il_2, ↓x_ge0, ↓x_c, ↓x_is_3, ↓x_il_3, ↓gi_142_23, ↓x_ge, ↓gr_142_51, ↓x_inc_3, ↓x_go, ↓x_is_4, ↓x_is_5, ↓x_il_5, ↓c_175, ↓x_eq0, ↓gr_142_16, ↓x_imul, ↓x_iadd, ↓x_le, ↓x_il_4, ↓x_inc_5, ↓x_ne, ↓c_176, ↓pi_142_52, ↓x_rt, ↓ld_151, ↓st_151, ↓ld_162, ↓st_162, ↓ld_167, ↓st_167, ↓n_174, ↓s_174_0, ↓s_174_23, ↓s_174_46, ↓s_174_119, ↓s_174_125, ↓s_174_136, ↓s_174_151, ↓bk_v, ↓bk_n, ↓bk_r, ↓pv_i, ↓pv_r, ↓pv_0, ↓pv_l, wz_pk, wz_ti, wz_wz, vI_wz, wz_id, wz_0, List.length_cons, List.length_nil, ↓reduceIte, true_and, and_true, Int.reduceLE, Int.reduceLT, Int.reduceEq, not_true_eq_false, not_false_eq_true, false_or, or_false, true_or, or_true, ite_not, Int.reduceNeg, Int32.reduceToInt, Nat.reduceAdd, Nat.reduceLeDiff, Nat.reduceLT, Nat.reduceEqDiff, Int.reduceAdd, Int.reduceSub, Int.reduceMul, Nat.zero_le, pk_po_ne, pk_po_eq, pk_po_ix, rI, ne_eq, g1, wz_of g1, e1, if_false, b7, b8]
      exact ih2
  have key0 := key0 M SF.rfl (fun d b1 b2 => by omega)
  simp (disch := omega) only [↓x_al_0, ↓x_il_1, ↓c_173, ↓gr_142_44, ↓c_165, ↓x_isub, ↓x_is_2, ↓x_il_2, ↓x_ge0, ↓x_c, ↓x_is_3, ↓x_il_3, ↓gi_142_23, ↓x_ge, ↓gr_142_51, ↓x_inc_3, ↓x_go, ↓x_is_4, ↓x_is_5, ↓x_il_5, ↓c_175, ↓x_eq0, ↓gr_142_16, ↓x_imul, ↓x_iadd, ↓x_le, ↓x_il_4, ↓x_inc_5, ↓x_ne, ↓c_176, ↓pi_142_52, ↓x_rt, ↓ld_151, ↓st_151, ↓ld_162, ↓st_162, ↓ld_167, ↓st_167, ↓n_174, ↓s_174_0, ↓s_174_23, ↓s_174_46, ↓s_174_119, ↓s_174_125, ↓s_174_136, ↓s_174_151, ↓bk_v, ↓bk_n, ↓bk_r, ↓pv_i, ↓pv_r, ↓pv_0, ↓pv_l, wz_pk, wz_ti, wz_wz, vI_wz, wz_id, wz_0, List.length_cons, List.length_nil, ↓reduceIte, true_and, and_true, Int.reduceLE, Int.reduceLT, Int.reduceEq, not_true_eq_false, not_false_eq_true, false_or, or_false, true_or, or_true, ite_not, Int.reduceNeg, Int32.reduceToInt, Nat.reduceAdd, Nat.reduceLeDiff, Nat.reduceLT, Nat.reduceEqDiff, Int.reduceAdd, Int.reduceSub, Int.reduceMul, Nat.zero_le, pk_po_ne, pk_po_eq, pk_po_ix, rI, ne_eq, v0, ↓R173 hR hH hI hp, q4, q5, ↓R165 hR hst.1 hst.2, w1]
  simp only [rk] at key0
  by_cases c : 0 ≤ coin S p - feesTo S (S 86 p)
  · rw [if_pos c]
    rw [show max 0 (coin S p - feesTo S (S 86 p)) = coin S p - feesTo S (S 86 p) by omega] at key0
    exact key0
  · rw [if_neg c]
    rw [show max 0 (coin S p - feesTo S (S 86 p)) = 0 by omega] at key0
    exact key0
end R66
