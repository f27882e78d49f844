/-! THE REFERENCE: promises by months -/
theorem SF.fxs {M M' M'' : Mem} {l : List Nat} (h : SF M M') (hf : fx l M' M'') (hl : l.all (fun a => decide (142 < a) && decide (a < 175) && !rst a 0) = true) : SF M M'' := by
  have h2 : ∀ a, a ∈ l → 142 < a ∧ a < 175 ∧ rst a 0 = false := fun a ha => by
    have := List.all_eq_true.mp hl a ha
    simp only [Bool.and_eq_true, decide_eq_true_eq, Bool.not_eq_true'] at this
    exact ⟨this.1.1, this.1.2, this.2⟩
  refine h.trans ⟨fun a ha => hf a (fun h1 => by have := h2 a h1; omega), fun a i ha => ?_⟩
  unfold pk
  rw [hf a]
  intro h1
  obtain ⟨h3, h4, h5⟩ := h2 a h1
  rcases ha with ha | ha
  · have h6 : rst a i = rst a 0 := by simp [rst, show ¬ a = 142 by omega]
    rw [h6, h5] at ha
    cases ha
  · omega
def pmK (T : St) (k m : Nat) : Int × Int × Int := pmN (T 30 (T 87 k)) (T 88 k) (T 89 k) (spN T (T 29 (T 87 k)) k) m
def pyK (T : St) (k m : Nat) : Int := (pmK T k m).1 - (pmK T k (m + 1)).1
def PMk (T : St) (M : Mem) (k m : Nat) : Prop := pk M 171 k = (pmK T k m).1 ∧ pk M 169 k = (pmK T k m).2.1 ∧ pk M 170 k = (pmK T k m).2.2 ∧ ∀ u : Nat, u < m → pk M 168 (36 * (k : Int) + u) = pyK T k u
def AK (T : St) (M : Mem) (N : Nat) : Prop := ∀ k : Nat, k < N → pk M 173 (3 * k) = T 87 k ∧ pk M 173 (3 * k + 1) = T 88 k ∧ pk M 173 (3 * k + 2) = T 89 k ∧ (0 ≤ T 87 k ∧ T 87 k < T 3 2) ∧ (1 ≤ T 88 k ∧ T 88 k ≤ 999) ∧ (0 ≤ T 89 k ∧ T 89 k ≤ 35)
theorem AK.fr {T : St} {M M' : Mem} {N : Nat} (h : AK T M N) (hf : fx [168, 169, 170, 171, 172] M M') : AK T M' N := by
  unfold AK at *
  simp only [hf.at (a := 173) (by decide)]
  exact h
theorem RRh.fr {T : St} {M M' : Mem} (h : RRh T M) (hf : fx [168, 169, 170, 171, 172] M M') : RRh T M' := h.sm (fun a i ha => hf.at (by
  simp only [rstH, Bool.or_eq_true, Bool.and_eq_true, decide_eq_true_eq] at ha
  simp only [List.mem_cons, List.not_mem_nil, or_false]
  omega))
theorem spN_rng2 {T : St} {M : Mem} {N : Nat} {p : Int} (hH : hou T) (hA : AK T M N) (hp : 0 ≤ p ∧ p < T 3 0) : ∀ k : Nat, k ≤ N → ∀ u, 0 ≤ u → u < 36 → -999 ≤ spN T p k u ∧ spN T p k u ≤ 999 := by
  intro k
  induction k with
  | zero =>
    intro _ u h1 h2
    have a1 := hH.inc p u hp.1 hp.2 h1 h2
    have a2 := hH.needs p hp.1 hp.2
    simp only [spN]
    omega
  | succ k ih =>
    intro hk u h1 h2
    have a0 := ih (by omega) u h1 h2
    obtain ⟨-, -, -, b1, b2, -⟩ := hA k (by omega)
    have b3 := hH.amt (T 87 k) b1.1 b1.2
    have b4 := py_rng (a := T 30 (T 87 k)) (c := T 88 k) (f := T 89 k) (sp := spN T p k) (by omega) (by omega) u.toNat
    rw [Int.toNat_of_nonneg h1] at b4
    simp only [spN]
    split
    · omega
    · exact a0
section R68
variable {Q : MOut → MHp → Prop} {X : Nat × (Nat → Int32)} {s : Bool × Bool} {dh dl t : Nat} {M : Mem} {S T : St}
def OTH (M M' : Mem) (k : Nat) : Prop := ∀ j : Nat, j ≠ k → pk M' 171 j = pk M 171 j ∧ pk M' 169 j = pk M 169 j ∧ pk M' 170 j = pk M 170 j ∧ ∀ u : Nat, u < 36 → pk M' 168 (36 * (j : Int) + u) = pk M 168 (36 * (j : Int) + u)
theorem PMk.oth {M' : Mem} {k j m : Nat} (h : PMk T M j m) (ho : OTH M M' k) (hj : j ≠ k) (hm : m ≤ 36) : PMk T M' j m := by
  obtain ⟨a1, a2, a3, a4⟩ := ho j hj
  obtain ⟨b1, b2, b3, b4⟩ := h
  exact ⟨by rw [a1]; exact b1, by rw [a2]; exact b2, by rw [a3]; exact b3, fun u hu => by rw [a4 u (by omega)]; exact b4 u hu⟩
theorem R184k {N m k : Nat} (hH : hou T) (hR : RRh T M) (hA : AK T M N) (hk : k < N) (hN : N ≤ 9) (hm : m < 36) (hP : PMk T M k m) (hsp : ∀ p, 0 ≤ p → p < T 3 0 → pk M 172 p = spN T p k m)
    (hQ : ∀ M', fx [168, 169, 170, 171, 172] M M' → PMk T M' k (m + 1) → OTH M M' k → (∀ p, 0 ≤ p → p < T 3 0 → pk M' 172 p = spN T p (k + 1) m) → ∀ a b, EX 184 (sx 184 107) [.ref 142, vI N, vI m, vI ((k : Int) + 1), a, b] [] (mkh X s dh dl t M') Q) : ∀ a b, EX 184 (sx 184 107) [.ref 142, vI N, vI m, vI k, a, b] [] (mkh X s dh dl t M) Q := by
  intro a b
  obtain ⟨p1, p2, p3, p4⟩ := hP
  obtain ⟨q1, q2, q3, q4, q5, q6⟩ := hA k hk
  have n2 := hH.nd
  have n3 := hH.np
  have g1 := hR.dbt (T 87 k) q4.1 q4.2
  have u1 := hH.dbt (T 87 k) q4.1 q4.2
  have u2 := hH.amt (T 87 k) q4.1 q4.2
  have sp := hsp (T 29 (T 87 k)) u1.1 u1.2
  have sr := spN_rng2 hH hA u1 k (by omega) m (by omega) (by omega)
  have hr := pm_rng (a := T 30 (T 87 k)) (c := T 88 k) (f := T 89 k) (sp := spN T (T 29 (T 87 k)) k) (by omega) (by omega) m
  have es : pmK T k (m + 1) = if (m : Int) < T 89 k ∨ (pmK T k m).1 = 0 ∨ ¬ (pmK T k m).2.1 = -1 then pmK T k m else if spN T (T 29 (T 87 k)) k m < min (T 88 k) (pmK T k m).1 then ((pmK T k m).1, (m : Int), (pmK T k m).2.2) else ((pmK T k m).1 - min (T 88 k) (pmK T k m).1, (pmK T k m).2.1, if (pmK T k m).1 - min (T 88 k) (pmK T k m).1 = 0 then (m : Int) else (pmK T k m).2.2) := rfl
  have esp : ∀ p, spN T p (k + 1) m = if T 29 (T 87 k) = p then spN T p k m - pyK T k m else spN T p k m := fun p => by
    simp only [spN]
    by_cases c : T 29 (T 87 k) = p
    · rw [if_pos c, if_pos c, Int.toNat_natCast]
      subst c
      rfl
    · rw [if_neg c, if_neg c]
  have hr' : (0 ≤ (pmK T k m).1 ∧ (pmK T k m).1 ≤ T 30 (T 87 k)) ∧ (-1 ≤ (pmK T k m).2.1 ∧ (pmK T k m).2.1 < m) ∧ (-1 ≤ (pmK T k m).2.2 ∧ (pmK T k m).2.2 < m) := hr
  clear hr
  have b1 : 36 * (k : Int) + m < 324 := by omega
  have b2 : 0 ≤ 36 * (k : Int) + m := by omega
  have b3 : 3 * (k : Int) + 2 < 27 := by omega
  have b4 : 0 ≤ 3 * (k : Int) + 2 := by omega
  have b5 : 3 * (k : Int) + 1 < 27 := by omega
  have b6 : 0 ≤ 3 * (k : Int) + 1 := by omega
  have b7 : 3 * (k : Int) < 27 := by omega
  have b8 : 0 ≤ 3 * (k : Int) := by omega
  have b9 : (k : Int) < 9 := by omega
  have b10 : 0 ≤ (k : Int) := by omega
  have b11 : 3 * T 87 k < 18 := by omega
  have b12 : 0 ≤ 3 * T 87 k := by omega
  have b13 : T 29 (T 87 k) < 4 := by omega
  have b14 : 0 ≤ T 29 (T 87 k) := by omega
  have e1 : ¬ (N : Int) ≤ k := by omega
  have hf0 : fx [168, 169, 170, 171, 172] M (po M 168 (36 * (k : Int) + m) 0) := fx.rfl.pw (by decide)
  rw [s_184_107]
  by_cases c1 : (m : Int) < T 89 k ∨ (pmK T k m).1 = 0 ∨ ¬ (pmK T k m).2.1 = -1
  · rw [if_pos c1] at es
    have ep : pyK T k m = 0 := by unfold pyK; rw [es]; omega
    have k1 := hQ (po M 168 (36 * (k : Int) + m) 0) hf0 ⟨by rw [es, pk_po_ne (by decide)]; exact p1, by rw [es, pk_po_ne (by decide)]; exact p2, by rw [es, pk_po_ne (by decide)]; exact p3, fun u hu => by
        by_cases hum : u = m
        · subst hum; rw [pk_po_eq, ep]; exact wz_0
        · rw [pk_po_ix (by omega)]; exact p4 u (by omega)⟩ (fun j hj => ⟨pk_po_ne (by decide), pk_po_ne (by decide), pk_po_ne (by decide), fun u hu => pk_po_ix (by omega)⟩) (fun p h1 h2 => by rw [pk_po_ne (by decide), esp, ep, hsp p h1 h2]; split <;> omega)
    clear hQ hsp p4 hf0 es esp hA hR hH
    simp (disch := omega) only [↓x_c, ↓x_is_2, ↓x_il_2, ↓x_il_1, ↓x_ge, ↓x_al_0, ↓gr_142_56, ↓gr_142_16, ↓gr_142_58, ↓x_imul, ↓x_iadd, ↓gr_142_54, ↓gr_142_55, ↓x_inc_2, ↓x_go, ↓x_is_3, ↓x_il_3, ↓gi_142_21, ↓gr_142_57, ↓gr_142_14, ↓x_isub, ↓x_inc_3, ↓gr_142_53, ↓x_lt, ↓x_eq0, ↓x_eq, ↓x_is_4, ↓x_is_5, ↓x_il_5, ↓x_il_4, ↓x_dup2, ↓x_ne0, ↓x_rt, ↓ld_149, ↓st_149, ↓ld_151, ↓st_151, ↓ld_168, ↓st_168, ↓ld_169, ↓st_169, ↓ld_170, ↓st_170, ↓ld_171, ↓st_171, ↓ld_172, ↓st_172, ↓ld_173, ↓st_173, ↓n_184, ↓s_184_0, ↓s_184_50, ↓s_184_105, ↓s_184_160, ↓s_184_192, ↓s_184_198, ↓s_184_239, ↓s_184_291, ↓s_184_297, ↓s_184_303, ↓pv_i, ↓pv_r, ↓pv_0, ↓pv_l, wz_pk, wz_ti, wz_wz, vI_wz, wz_id, wz_0, List.length_cons, List.length_nil, ↓reduceIte, true_and, and_true, Int.reduceLE, Int.reduceLT, Int.reduceEq, not_true_eq_false, not_false_eq_true, false_or, or_false, true_or, or_true, ite_not, Int.reduceNeg, Int32.reduceToInt, Nat.reduceAdd, Nat.reduceLeDiff, Nat.reduceLT, Nat.reduceEqDiff, Int.reduceAdd, Int.reduceSub, Int.reduceMul, Nat.zero_le, pk_po_ne, pk_po_eq, pk_po_ix, rI, ne_eq, e1, if_false, b1, b2, b3, b4, b5, b6, b7, b8, b9, b10, p1, p2, p3, q1, q2, q3, wz_of p1, wz_of p2, wz_of q3]
    by_cases c2 : (m : Int) < T 89 k
    · rw [if_pos c2]
      exact k1 _ _
    · rw [if_neg c2]
      by_cases c3 : (pmK T k m).1 = 0
      · rw [if_pos c3]
        exact k1 _ _
      · rw [if_neg c3, if_neg (by omega)]
        exact k1 _ _
  · rw [if_neg c1] at es
    have c2 : ¬ (m : Int) < T 89 k := by omega
    have c3 : ¬ (pmK T k m).1 = 0 := by omega
    have c4 : (pmK T k m).2.1 = -1 := by omega
    have emin : (if (pmK T k m).1 ≤ T 88 k then (pmK T k m).1 else T 88 k) = min (T 88 k) (pmK T k m).1 := by split <;> omega
    generalize hdue : min (T 88 k) (pmK T k m).1 = due at *
    have hd1 : 1 ≤ due ∧ due ≤ 999 ∧ due ≤ (pmK T k m).1 := by omega
    by_cases c5 : spN T (T 29 (T 87 k)) k m < due
    · rw [if_pos c5] at es
      have ep : pyK T k m = 0 := by unfold pyK; rw [es]; simp
      have k1 := hQ (po (po M 168 (36 * (k : Int) + m) 0) 169 k m) (hf0.pw (by decide)) ⟨by rw [es, pk_po_ne (by decide), pk_po_ne (by decide)]; exact p1, by rw [es, pk_po_eq]; exact wz_id (by omega) (by omega), by rw [es, pk_po_ne (by decide), pk_po_ne (by decide)]; exact p3, fun u hu => by
        rw [pk_po_ne (by decide)]
        by_cases hum : u = m
        · subst hum; rw [pk_po_eq, ep]; exact wz_0
        · rw [pk_po_ix (by omega)]; exact p4 u (by omega)⟩ (fun j hj => ⟨by rw [pk_po_ne (by decide), pk_po_ne (by decide)], by rw [pk_po_ix (by omega), pk_po_ne (by decide)], by rw [pk_po_ne (by decide), pk_po_ne (by decide)], fun u hu => by rw [pk_po_ne (by decide), pk_po_ix (by omega)]⟩) (fun p h1 h2 => by rw [pk_po_ne (by decide), pk_po_ne (by decide), esp, ep, hsp p h1 h2]; split <;> omega)
      clear hQ hsp p4 hf0 es esp hA hR hH
      have c6 : ¬ due ≤ spN T (T 29 (T 87 k)) k m := by omega
      simp (disch := omega) only [↓x_c, ↓x_is_2, ↓x_il_2, ↓x_il_1, ↓x_ge, ↓x_al_0, ↓gr_142_56, ↓gr_142_16, ↓gr_142_58, ↓x_imul, ↓x_iadd, ↓gr_142_54, ↓gr_142_55, ↓x_inc_2, ↓x_go, ↓x_is_3, ↓x_il_3, ↓gi_142_21, ↓gr_142_57, ↓gr_142_14, ↓x_isub, ↓x_inc_3, ↓gr_142_53, ↓x_lt, ↓x_eq0, ↓x_eq, ↓x_is_4, ↓x_is_5, ↓x_il_5, ↓x_il_4, ↓x_dup2, ↓x_ne0, ↓x_rt, ↓ld_149, ↓st_149, ↓ld_151, ↓st_151, ↓ld_168, ↓st_168, ↓ld_169, ↓st_169, ↓ld_170, ↓st_170, ↓ld_171, ↓st_171, ↓ld_172, ↓st_172, ↓ld_173, ↓st_173, ↓n_184, ↓s_184_0, ↓s_184_50, ↓s_184_105, ↓s_184_160, ↓s_184_192, ↓s_184_239, ↓s_184_291, ↓s_184_297, ↓s_184_303, ↓pv_i, ↓pv_r, ↓pv_0, ↓pv_l, wz_pk, wz_ti, wz_wz, vI_wz, wz_id, wz_0, List.length_cons, List.length_nil, ↓reduceIte, true_and, and_true, Int.reduceLE, Int.reduceLT, Int.reduceEq, not_true_eq_false, not_false_eq_true, false_or, or_false, true_or, or_true, ite_not, Int.reduceNeg, Int32.reduceToInt, Nat.reduceAdd, Nat.reduceLeDiff, Nat.reduceLT, Nat.reduceEqDiff, Int.reduceAdd, Int.reduceSub, Int.reduceMul, Nat.zero_le, pk_po_ne, pk_po_eq, pk_po_ix, rI, ne_eq, e1, if_false, if_true, b1, b2, b3, b4, b5, b6, b7, b8, b9, b10, b11, b12, b13, b14, p1, p2, p3, q1, q2, q3, g1, sp, wz_of p1, wz_of p2, wz_of q3, wz_of q2, c2, c3, c4, emin, c6, wz_of sp, mrg]
      (try simp (disch := omega) only [↓x_c, ↓x_is_2, ↓x_il_2, ↓x_il_1, ↓x_ge, ↓x_al_0, ↓gr_142_56, ↓gr_142_16, ↓gr_142_58, ↓x_imul, ↓x_iadd, ↓gr_142_54, ↓gr_142_55, ↓x_inc_2, ↓x_go, ↓x_is_3, ↓x_il_3, ↓gi_142_21, ↓gr_142_57, ↓gr_142_14, ↓x_isub, ↓x_inc_3, ↓gr_142_53, ↓x_lt, ↓x_eq0, ↓x_eq, ↓x_is_4, ↓x_is_5, ↓x_il_5, ↓x_il_4, ↓x_dup2, ↓x_ne0, ↓x_rt, ↓ld_149, ↓st_149, ↓ld_151, ↓st_151, ↓ld_168, ↓st_168, ↓ld_169, ↓st_169, ↓ld_170, ↓st_170, ↓ld_171, ↓st_171, ↓ld_172, ↓st_172, ↓ld_173, ↓st_173, ↓n_184, ↓s_184_0, ↓s_184_50, ↓s_184_105, ↓s_184_160, ↓s_184_192, ↓s_184_198, ↓s_184_239, ↓s_184_291, ↓s_184_297, ↓s_184_303, ↓pv_i, ↓pv_r, ↓pv_0, ↓pv_l, wz_pk, wz_ti, wz_wz, vI_wz, wz_id, wz_0, List.length_cons, List.length_nil, ↓reduceIte, true_and, and_true, Int.reduceLE, Int.reduceLT, Int.reduceEq, not_true_eq_false, not_false_eq_true, false_or, or_false, true_or, or_true, ite_not, Int.reduceNeg, Int32.reduceToInt, Nat.reduceAdd, Nat.reduceLeDiff, Nat.reduceLT, Nat.reduceEqDiff, Int.reduceAdd, Int.reduceSub, Int.reduceMul, Nat.zero_le, pk_po_ne, pk_po_eq, pk_po_ix, rI, ne_eq, e1, if_false, if_true, b1, b2, b3, b4, b5, b6, b7, b8, b9, b10, b11, b12, b13, b14, p1, p2, p3, q1, q2, q3, g1, sp, wz_of p1, wz_of p2, wz_of q3, wz_of q2, c2, c3, c4, emin, c6, wz_of sp, mrg])
      exact k1 _ _
    · rw [if_neg c5] at es
      have ep : pyK T k m = due := by unfold pyK; rw [es]; simp only; omega
      have c6 : due ≤ spN T (T 29 (T 87 k)) k m := by omega
      have hM4 : ∀ (M4 : Mem), M4 = po (po (po (po M 168 (36 * (k : Int) + m) 0) 172 (T 29 (T 87 k)) (spN T (T 29 (T 87 k)) k m - due)) 171 k ((pmK T k m).1 - due)) 168 (36 * (k : Int) + m) due → fx [168, 169, 170, 171, 172] M M4 ∧ pk M4 171 k = (pmK T k m).1 - due ∧ pk M4 169 k = -1 ∧ pk M4 170 k = (pmK T k m).2.2 ∧ (∀ u : Nat, u < m + 1 → pk M4 168 (36 * (k : Int) + u) = pyK T k u) ∧ OTH M M4 k ∧ (∀ p, 0 ≤ p → p < T 3 0 → pk M4 172 p = spN T p (k + 1) m) := by
        intro M4 h4
        subst h4
        refine ⟨((hf0.pw (by decide)).pw (by decide)).pw (by decide), ?_, ?_, ?_, fun u hu => ?_, fun j hj => ⟨?_, ?_, ?_, fun u hu => ?_⟩, fun p h1 h2 => ?_⟩
        · rw [pk_po_ne (by decide), pk_po_eq]; exact wz_id (by omega) (by omega)
        · rw [pk_po_ne (by decide), pk_po_ne (by decide), pk_po_ne (by decide), pk_po_ne (by decide), p2]; exact c4
        · rw [pk_po_ne (by decide), pk_po_ne (by decide), pk_po_ne (by decide), pk_po_ne (by decide)]; exact p3
        · by_cases hum : u = m
          · subst hum; rw [pk_po_eq, ep]; exact wz_id (by omega) (by omega)
          · rw [pk_po_ix (by omega), pk_po_ne (by decide), pk_po_ne (by decide), pk_po_ix (by omega)]; exact p4 u (by omega)
        · rw [pk_po_ne (by decide), pk_po_ix (by omega), pk_po_ne (by decide), pk_po_ne (by decide)]
        · rw [pk_po_ne (by decide), pk_po_ne (by decide), pk_po_ne (by decide), pk_po_ne (by decide)]
        · rw [pk_po_ne (by decide), pk_po_ne (by decide), pk_po_ne (by decide), pk_po_ne (by decide)]
        · rw [pk_po_ix (by omega), pk_po_ne (by decide), pk_po_ne (by decide), pk_po_ix (by omega)]
        · rw [pk_po_ne (by decide), pk_po_ne (by decide), esp, ep]
          by_cases hpp : p = T 29 (T 87 k)
          · subst hpp; rw [pk_po_eq, if_pos rfl]; exact wz_id (by omega) (by omega)
          · rw [pk_po_ix hpp, pk_po_ne (by decide), if_neg (fun h => hpp h.symm)]; exact hsp p h1 h2
      obtain ⟨r1, r2, r3, r4, r5, r6, r7⟩ := hM4 _ rfl
      clear hM4
      by_cases c7 : (pmK T k m).1 - due = 0
      · rw [if_pos c7] at es
        have k1 := hQ _ (r1.pw (a := 170) (i := k) (x := m) (by decide)) ⟨by rw [es, pk_po_ne (by decide), r2], by rw [es, pk_po_ne (by decide), r3]; exact c4.symm, by rw [es, pk_po_eq]; exact wz_id (by omega) (by omega), fun u hu => by rw [pk_po_ne (by decide)]; exact r5 u hu⟩ (fun j hj => by
          obtain ⟨o1, o2, o3, o4⟩ := r6 j hj
          exact ⟨by rw [pk_po_ne (by decide), o1], by rw [pk_po_ne (by decide), o2], by rw [pk_po_ix (by omega), o3], fun u hu => by rw [pk_po_ne (by decide), o4 u hu]⟩) (fun p h1 h2 => by rw [pk_po_ne (by decide)]; exact r7 p h1 h2)
        clear hQ hsp p4 hf0 es esp hA hR hH r1 r2 r3 r4 r5 r6 r7
        simp (disch := omega) only [↓x_c, ↓x_is_2, ↓x_il_2, ↓x_il_1, ↓x_ge, ↓x_al_0, ↓gr_142_56, ↓gr_142_16, ↓gr_142_58, ↓x_imul, ↓x_iadd, ↓gr_142_54, ↓gr_142_55, ↓x_inc_2, ↓x_go, ↓x_is_3, ↓x_il_3, ↓gi_142_21, ↓gr_142_57, ↓gr_142_14, ↓x_isub, ↓x_inc_3, ↓gr_142_53, ↓x_lt, ↓x_eq0, ↓x_eq, ↓x_is_4, ↓x_is_5, ↓x_il_5, ↓x_il_4, ↓x_dup2, ↓x_ne0, ↓x_rt, ↓ld_149, ↓st_149, ↓ld_151, ↓st_151, ↓ld_168, ↓st_168, ↓ld_169, ↓st_169, ↓ld_170, ↓st_170, ↓ld_171, ↓st_171, ↓ld_172, ↓st_172, ↓ld_173, ↓st_173, ↓n_184, ↓s_184_0, ↓s_184_50, ↓s_184_105, ↓s_184_160, ↓s_184_192, ↓s_184_239, ↓s_184_291, ↓s_184_297, ↓s_184_303, ↓pv_i, ↓pv_r, ↓pv_0, ↓pv_l, wz_pk, wz_ti, wz_wz, vI_wz, wz_id, wz_0, List.length_cons, List.length_nil, ↓reduceIte, true_and, and_true, Int.reduceLE, Int.reduceLT, Int.reduceEq, not_true_eq_false, not_false_eq_true, false_or, or_false, true_or, or_true, ite_not, Int.reduceNeg, Int32.reduceToInt, Nat.reduceAdd, Nat.reduceLeDiff, Nat.reduceLT, Nat.reduceEqDiff, Int.reduceAdd, Int.reduceSub, Int.reduceMul, Nat.zero_le, pk_po_ne, pk_po_eq, pk_po_ix, rI, ne_eq, e1, if_false, if_true, b1, b2, b3, b4, b5, b6, b7, b8, b9, b10, b11, b12, b13, b14, p1, p2, p3, q1, q2, q3, g1, sp, wz_of p1, wz_of p2, wz_of q3, wz_of q2, c2, c3, c4, emin, c6, wz_of sp, c7, mrg]
        (try simp (disch := omega) only [↓x_c, ↓x_is_2, ↓x_il_2, ↓x_il_1, ↓x_ge, ↓x_al_0, ↓gr_142_56, ↓gr_142_16, ↓gr_142_58, ↓x_imul, ↓x_iadd, ↓gr_142_54, ↓gr_142_55, ↓x_inc_2, ↓x_go, ↓x_is_3, ↓x_il_3, ↓gi_142_21, ↓gr_142_57, ↓gr_142_14, ↓x_isub, ↓x_inc_3, ↓gr_142_53, ↓x_lt, ↓x_eq0, ↓x_eq, ↓x_is_4, ↓x_is_5, ↓x_il_5, ↓x_il_4, ↓x_dup2, ↓x_ne0, ↓x_rt, ↓ld_149, ↓st_149, ↓ld_151, ↓st_151, ↓ld_168, ↓st_168, ↓ld_169, ↓st_169, ↓ld_170, ↓st_170, ↓ld_171, ↓st_171, ↓ld_172, ↓st_172, ↓ld_173, ↓st_173, ↓n_184, ↓s_184_0, ↓s_184_50, ↓s_184_105, ↓s_184_160, ↓s_184_192, ↓s_184_198, ↓s_184_239, ↓s_184_291, ↓s_184_297, ↓s_184_303, ↓pv_i, ↓pv_r, ↓pv_0, ↓pv_l, wz_pk, wz_ti, wz_wz, vI_wz, wz_id, wz_0, List.length_cons, List.length_nil, ↓reduceIte, true_and, and_true, Int.reduceLE, Int.reduceLT, Int.reduceEq, not_true_eq_false, not_false_eq_true, false_or, or_false, true_or, or_true, ite_not, Int.reduceNeg, Int32.reduceToInt, Nat.reduceAdd, Nat.reduceLeDiff, Nat.reduceLT, Nat.reduceEqDiff, Int.reduceAdd, Int.reduceSub, Int.reduceMul, Nat.zero_le, pk_po_ne, pk_po_eq, pk_po_ix, rI, ne_eq, e1, if_false, if_true, b1, b2, b3, b4, b5, b6, b7, b8, b9, b10, b11, b12, b13, b14, p1, p2, p3, q1, q2, q3, g1, sp, wz_of p1, wz_of p2, wz_of q3, wz_of q2, c2, c3, c4, emin, c6, wz_of sp, c7, mrg])
        rw [c7] at k1
        exact k1 _ _
      · rw [if_neg c7] at es
        have k1 := hQ _ r1 ⟨by rw [es, r2], by rw [es, r3]; exact c4.symm, by rw [es, r4], r5⟩ r6 r7
        clear hQ hsp p4 hf0 es esp hA hR hH r1 r2 r3 r4 r5 r6 r7
        simp (disch := omega) only [↓x_c, ↓x_is_2, ↓x_il_2, ↓x_il_1, ↓x_ge, ↓x_al_0, ↓gr_142_56, ↓gr_142_16, ↓gr_142_58, ↓x_imul, ↓x_iadd, ↓gr_142_54, ↓gr_142_55, ↓x_inc_2, ↓x_go, ↓x_is_3, ↓x_il_3, ↓gi_142_21, ↓gr_142_57, ↓gr_142_14, ↓x_isub, ↓x_inc_3, ↓gr_142_53, ↓x_lt, ↓x_eq0, ↓x_eq, ↓x_is_4, ↓x_is_5, ↓x_il_5, ↓x_il_4, ↓x_dup2, ↓x_ne0, ↓x_rt, ↓ld_149, ↓st_149, ↓ld_151, ↓st_151, ↓ld_168, ↓st_168, ↓ld_169, ↓st_169, ↓ld_170, ↓st_170, ↓ld_171, ↓st_171, ↓ld_172, ↓st_172, ↓ld_173, ↓st_173, ↓n_184, ↓s_184_0, ↓s_184_50, ↓s_184_105, ↓s_184_160, ↓s_184_192, ↓s_184_239, ↓s_184_291, ↓s_184_297, ↓s_184_303, ↓pv_i, ↓pv_r, ↓pv_0, ↓pv_l, wz_pk, wz_ti, wz_wz, vI_wz, wz_id, wz_0, List.length_cons, List.length_nil, ↓reduceIte, true_and, and_true, Int.reduceLE, Int.reduceLT, Int.reduceEq, not_true_eq_false, not_false_eq_true, false_or, or_false, true_or, or_true, ite_not, Int.reduceNeg, Int32.reduceToInt, Nat.reduceAdd, Nat.reduceLeDiff, Nat.reduceLT, Nat.reduceEqDiff, Int.reduceAdd, Int.reduceSub, Int.reduceMul, Nat.zero_le, pk_po_ne, pk_po_eq, pk_po_ix, rI, ne_eq, e1, if_false, if_true, b1, b2, b3, b4, b5, b6, b7, b8, b9, b10, b11, b12, b13, b14, p1, p2, p3, q1, q2, q3, g1, sp, wz_of p1, wz_of p2, wz_of q3, wz_of q2, c2, c3, c4, emin, c6, wz_of sp, c7, mrg]
        (try simp (disch := omega) only [↓x_c, ↓x_is_2, ↓x_il_2, ↓x_il_1, ↓x_ge, ↓x_al_0, ↓gr_142_56, ↓gr_142_16, ↓gr_142_58, ↓x_imul, ↓x_iadd, ↓gr_142_54, ↓gr_142_55, ↓x_inc_2, ↓x_go, ↓x_is_3, ↓x_il_3, ↓gi_142_21, ↓gr_142_57, ↓gr_142_14, ↓x_isub, ↓x_inc_3, ↓gr_142_53, ↓x_lt, ↓x_eq0, ↓x_eq, ↓x_is_4, ↓x_is_5, ↓x_il_5, ↓x_il_4, ↓x_dup2, ↓x_ne0, ↓x_rt, ↓ld_149, ↓st_149, ↓ld_151, ↓st_151, ↓ld_168, ↓st_168, ↓ld_169, ↓st_169, ↓ld_170, ↓st_170, ↓ld_171, ↓st_171, ↓ld_172, ↓st_172, ↓ld_173, ↓st_173, ↓n_184, ↓s_184_0, ↓s_184_50, ↓s_184_105, ↓s_184_160, ↓s_184_192, ↓s_184_198, ↓s_184_239, ↓s_184_291, ↓s_184_297, ↓s_184_303, ↓pv_i, ↓pv_r, ↓pv_0, ↓pv_l, wz_pk, wz_ti, wz_wz, vI_wz, wz_id, wz_0, List.length_cons, List.length_nil, ↓reduceIte, true_and, and_true, Int.reduceLE, Int.reduceLT, Int.reduceEq, not_true_eq_false, not_false_eq_true, false_or, or_false, true_or, or_true, ite_not, Int.reduceNeg, Int32.reduceToInt, Nat.reduceAdd, Nat.reduceLeDiff, Nat.reduceLT, Nat.reduceEqDiff, Int.reduceAdd, Int.reduceSub, Int.reduceMul, Nat.zero_le, pk_po_ne, pk_po_eq, pk_po_ix, rI, ne_eq, e1, if_false, if_true, b1, b2, b3, b4, b5, b6, b7, b8, b9, b10, b11, b12, b13, b14, p1, p2, p3, q1, q2, q3, g1, sp, wz_of p1, wz_of p2, wz_of q3, wz_of q2, c2, c3, c4, emin, c6, wz_of sp, c7, mrg])
        exact k1 _ _
theorem R184 {N : Nat} (hH : hou T) (hR : RRh T M) (hA : AK T M N) (hN : N ≤ 9)
    (hQ : ∀ M', fx [168, 169, 170, 171, 172] M M' → (∀ k : Nat, k < N → PMk T M' k 36) → Q (.inl none) (mkh X s dh dl t M')) : CL 184 [.ref 142, vI N] (mkh X s dh dl t M) Q := by
  have n2 := hH.nd
  have n3 := hH.np
  have key : ∀ M', fx [168, 169, 170, 171, 172] M M' → (∀ k : Nat, k < N → PMk T M' k (0 : Nat)) → ∀ a b c, EX 184 (sx 184 52) [.ref 142, vI N, vI ((0 : Nat) : Int), a, b, c] [] (mkh X s dh dl t M') Q := by
    refine lp (n := 36) (fun m => ∀ M', fx [168, 169, 170, 171, 172] M M' → (∀ k : Nat, k < N → PMk T M' k m) → ∀ a b c, EX 184 (sx 184 52) [.ref 142, vI N, vI (m : Int), a, b, c] [] (mkh X s dh dl t M') Q) ?_ ?_
    · intro M' f h a b c
      have e := hQ M' f h
      have e1 : (36 : Int) ≤ ((36 : Nat) : Int) := by omega
      rw [s_184_52]
      simp (disch := omega) only [↓x_c, ↓x_is_2, ↓x_il_2, ↓x_il_1, ↓x_ge, ↓x_al_0, ↓gr_142_56, ↓gr_142_16, ↓gr_142_58, ↓x_imul, ↓x_iadd, ↓gr_142_54, ↓gr_142_55, ↓x_inc_2, ↓x_go, ↓x_is_3, ↓x_il_3, ↓gi_142_21, ↓gr_142_57, ↓gr_142_14, ↓x_isub, ↓x_inc_3, ↓gr_142_53, ↓x_lt, ↓x_eq0, ↓x_eq, ↓x_is_4, ↓x_is_5, ↓x_il_5, ↓x_il_4, ↓x_dup2, ↓x_ne0, ↓x_rt, ↓ld_149, ↓st_149, ↓ld_151, ↓st_151, ↓ld_168, ↓st_168, ↓ld_169, ↓st_169, ↓ld_170, ↓st_170, ↓ld_171, ↓st_171, ↓ld_172, ↓st_172, ↓ld_173, ↓st_173, ↓n_184, ↓s_184_0, ↓s_184_50, ↓s_184_105, ↓s_184_160, ↓s_184_192, ↓s_184_198, ↓s_184_239, ↓s_184_291, ↓s_184_297, ↓s_184_303, ↓pv_i, ↓pv_r, ↓pv_0, ↓pv_l, wz_pk, wz_ti, wz_wz, vI_wz, wz_id, wz_0, List.length_cons, List.length_nil, ↓reduceIte, true_and, and_true, Int.reduceLE, Int.reduceLT, Int.reduceEq, not_true_eq_false, not_false_eq_true, false_or, or_false, true_or, or_true, ite_not, Int.reduceNeg, Int32.reduceToInt, Nat.reduceAdd, Nat.reduceLeDiff, Nat.reduceLT, Nat.reduceEqDiff, Int.reduceAdd, Int.reduceSub, Int.reduceMul, Nat.zero_le, pk_po_ne, pk_po_eq, pk_po_ix, rI, ne_eq, e1, if_true]
      exact e
    · intro m hm ih M' f h a b c
      have e1 : ¬ (36 : Int) ≤ m := by omega
      -- each promise of the month
      have prs : ∀ M2, fx [168, 169, 170, 171, 172] M M2 → (∀ j : Nat, j < N → PMk T M2 j (if j < (0 : Nat) then m + 1 else m)) → (∀ p, 0 ≤ p → p < T 3 0 → pk M2 172 p = spN T p (0 : Nat) m) → ∀ a b, EX 184 (sx 184 107) [.ref 142, vI N, vI (m : Int), vI ((0 : Nat) : Int), a, b] [] (mkh X s dh dl t M2) Q := by
        refine lp (n := N) (fun k => ∀ M2, fx [168, 169, 170, 171, 172] M M2 → (∀ j : Nat, j < N → PMk T M2 j (if j < k then m + 1 else m)) → (∀ p, 0 ≤ p → p < T 3 0 → pk M2 172 p = spN T p k m) → ∀ a b, EX 184 (sx 184 107) [.ref 142, vI N, vI (m : Int), vI (k : Int), a, b] [] (mkh X s dh dl t M2) Q) ?_ ?_
        · intro M2 f2 h2 _ a b
          have e2 := ih M2 f2 (fun k hk => by have := h2 k hk; rw [if_pos hk] at this; exact this)
          have e3 : (N : Int) ≤ N := Int.le_refl _
          rw [s_184_107]
          simp (disch := omega) only [↓x_c, ↓x_is_2, ↓x_il_2, ↓x_il_1, ↓x_ge, ↓x_al_0, ↓gr_142_56, ↓gr_142_16, ↓gr_142_58, ↓x_imul, ↓x_iadd, ↓gr_142_54, ↓gr_142_55, ↓x_inc_2, ↓x_go, ↓x_is_3, ↓x_il_3, ↓gi_142_21, ↓gr_142_57, ↓gr_142_14, ↓x_isub, ↓x_inc_3, ↓gr_142_53, ↓x_lt, ↓x_eq0, ↓x_eq, ↓x_is_4, ↓x_is_5, ↓x_il_5, ↓x_il_4, ↓x_dup2, ↓x_ne0, ↓x_rt, ↓ld_149, ↓st_149, ↓ld_151, ↓st_151, ↓ld_168, ↓st_168, ↓ld_169, ↓st_169, ↓ld_170, ↓st_170, ↓ld_171, ↓st_171, ↓ld_172, ↓st_172, ↓ld_173, ↓st_173, ↓n_184, ↓s_184_0, ↓s_184_50, ↓s_184_105, ↓s_184_160, ↓s_184_192, ↓s_184_198, ↓s_184_239, ↓s_184_291, ↓s_184_297, ↓s_184_303, ↓pv_i, ↓pv_r, ↓pv_0, ↓pv_l, wz_pk, wz_ti, wz_wz, vI_wz, wz_id, wz_0, List.length_cons, List.length_nil, ↓reduceIte, true_and, and_true, Int.reduceLE, Int.reduceLT, Int.reduceEq, not_true_eq_false, not_false_eq_true, false_or, or_false, true_or, or_true, ite_not, Int.reduceNeg, Int32.reduceToInt, Nat.reduceAdd, Nat.reduceLeDiff, Nat.reduceLT, Nat.reduceEqDiff, Int.reduceAdd, Int.reduceSub, Int.reduceMul, Nat.zero_le, pk_po_ne, pk_po_eq, pk_po_ix, rI, ne_eq, e3, if_true]
          exact e2 _ _ _
        · intro k hk ih2 M2 f2 h2 h3
          have h4 := h2 k hk
          rw [if_neg (by omega)] at h4
          refine R184k hH (hR.fr f2) (hA.fr f2) hk hN hm h4 h3 ?_
          intro M3 f3 h5 h6 h7
          have e2 := ih2 M3 (f2.trans f3) (fun j hj => by
            have h8 := h2 j hj
            by_cases hjk : j = k
            · subst hjk; rw [if_pos (by omega)]; exact h5
            · by_cases hlt : j < k
              · rw [if_pos hlt] at h8; rw [if_pos (by omega)]; exact h8.oth h6 hjk (by omega)
              · rw [if_neg hlt] at h8; rw [if_neg (by omega)]; exact h8.oth h6 hjk (by omega)) h7
          rw [show ((k + 1 : Nat) : Int) = (k : Int) + 1 by omega] at e2
          exact e2
      -- what is spare in the month
      have spr : ∀ M2, fx [168, 169, 170, 171, 172] M M2 → (∀ j : Nat, j < N → PMk T M2 j m) → (∀ p, 0 ≤ p → p < ((0 : Nat) : Int) → pk M2 172 p = spN T p 0 m) → ∀ a b, EX 184 (sx 184 60) [.ref 142, vI N, vI (m : Int), vI ((0 : Nat) : Int), a, b] [] (mkh X s dh dl t M2) Q := by
        refine lp (n := (T 3 0).toNat) (fun n => ∀ M2, fx [168, 169, 170, 171, 172] M M2 → (∀ j : Nat, j < N → PMk T M2 j m) → (∀ p, 0 ≤ p → p < (n : Int) → pk M2 172 p = spN T p 0 m) → ∀ a b, EX 184 (sx 184 60) [.ref 142, vI N, vI (m : Int), vI (n : Int), a, b] [] (mkh X s dh dl t M2) Q) ?_ ?_
        · intro M2 f2 h2 h3 a b
          have g1 := (hR.fr f2).np
          have e2 : T 3 0 ≤ (T 3 0).toNat := by omega
          have k := prs M2 f2 (fun j hj => by rw [if_neg (by omega)]; exact h2 j hj) (fun p a b => h3 p a (by omega)) a b
          rw [s_184_60]
          simp (disch := omega) only [↓x_c, ↓x_is_2, ↓x_il_2, ↓x_il_1, ↓x_ge, ↓x_al_0, ↓gr_142_56, ↓gr_142_16, ↓gr_142_58, ↓x_imul, ↓x_iadd, ↓gr_142_54, ↓gr_142_55, ↓x_inc_2, ↓x_go, ↓x_is_3, ↓x_il_3, ↓gi_142_21, ↓gr_142_57, ↓gr_142_14, ↓x_isub, ↓x_inc_3, ↓gr_142_53, ↓x_lt, ↓x_eq0, ↓x_eq, ↓x_is_4, ↓x_is_5, ↓x_il_5, ↓x_il_4, ↓x_dup2, ↓x_ne0, ↓x_rt, ↓ld_149, ↓st_149, ↓ld_151, ↓st_151, ↓ld_168, ↓st_168, ↓ld_169, ↓st_169, ↓ld_170, ↓st_170, ↓ld_171, ↓st_171, ↓ld_172, ↓st_172, ↓ld_173, ↓st_173, ↓n_184, ↓s_184_0, ↓s_184_50, ↓s_184_105, ↓s_184_160, ↓s_184_192, ↓s_184_198, ↓s_184_239, ↓s_184_291, ↓s_184_297, ↓s_184_303, ↓pv_i, ↓pv_r, ↓pv_0, ↓pv_l, wz_pk, wz_ti, wz_wz, vI_wz, wz_id, wz_0, List.length_cons, List.length_nil, ↓reduceIte, true_and, and_true, Int.reduceLE, Int.reduceLT, Int.reduceEq, not_true_eq_false, not_false_eq_true, false_or, or_false, true_or, or_true, ite_not, Int.reduceNeg, Int32.reduceToInt, Nat.reduceAdd, Nat.reduceLeDiff, Nat.reduceLT, Nat.reduceEqDiff, Int.reduceAdd, Int.reduceSub, Int.reduceMul, Nat.zero_le, pk_po_ne, pk_po_eq, pk_po_ix, rI, ne_eq, g1, wz_of g1, e2, if_true]
          exact k
        · intro n hn ih2 M2 f2 h2 h3 a b
          have hR2 := hR.fr f2
          have g1 := hR2.np
          have g2 := hR2.needs n (by omega) (by omega)
          have g3 := hR2.inc n m (by omega) (by omega) (by omega) (by omega)
          have i1 := hH.needs n (by omega) (by omega)
          have i2 := hH.inc n m (by omega) (by omega) (by omega) (by omega)
          have e2 : ¬ T 3 0 ≤ n := by omega
          have b1 : 38 * (n : Int) + 1 + m < 152 := by omega
          have b2 : 0 ≤ 38 * (n : Int) + 1 + m := by omega
          have b3 : 38 * (n : Int) < 152 := by omega
          have b4 : 0 ≤ 38 * (n : Int) := by omega
          have b5 : (n : Int) < 4 := by omega
          have b6 : 0 ≤ (n : Int) := by omega
          have ih3 := ih2 (po M2 172 n (T 5 (36 * n + m) - T 4 n)) (f2.pw (by decide)) (fun j hj => by
            obtain ⟨o1, o2, o3, o4⟩ := h2 j hj
            exact ⟨by rw [pk_po_ne (by decide)]; exact o1, by rw [pk_po_ne (by decide)]; exact o2, by rw [pk_po_ne (by decide)]; exact o3, fun u hu => by rw [pk_po_ne (by decide)]; exact o4 u hu⟩) (fun p h4 h5 => by
            by_cases hpn : p = n
            · subst hpn; rw [pk_po_eq]; exact wz_id (by omega) (by omega)
            · rw [pk_po_ix hpn]; exact h3 p h4 (by omega)) a b
          rw [s_184_60]
          simp (disch := omega) only [↓x_c, ↓x_is_2, ↓x_il_2, ↓x_il_1, ↓x_ge, ↓x_al_0, ↓gr_142_56, ↓gr_142_16, ↓gr_142_58, ↓x_imul, ↓x_iadd, ↓gr_142_54, ↓gr_142_55, ↓x_inc_2, ↓x_go, ↓x_is_3, ↓x_il_3, ↓gi_142_21, ↓gr_142_57, ↓gr_142_14, ↓x_isub, ↓x_inc_3, ↓gr_142_53, ↓x_lt, ↓x_eq0, ↓x_eq, ↓x_is_4, ↓x_is_5, ↓x_il_5, ↓x_il_4, ↓x_dup2, ↓x_ne0, ↓x_rt, ↓ld_149, ↓st_149, ↓ld_151, ↓st_151, ↓ld_168, ↓st_168, ↓ld_169, ↓st_169, ↓ld_170, ↓st_170, ↓ld_171, ↓st_171, ↓ld_172, ↓st_172, ↓ld_173, ↓st_173, ↓n_184, ↓s_184_0, ↓s_184_50, ↓s_184_105, ↓s_184_160, ↓s_184_192, ↓s_184_198, ↓s_184_239, ↓s_184_291, ↓s_184_297, ↓s_184_303, ↓pv_i, ↓pv_r, ↓pv_0, ↓pv_l, wz_pk, wz_ti, wz_wz, vI_wz, wz_id, wz_0, List.length_cons, List.length_nil, ↓reduceIte, true_and, and_true, Int.reduceLE, Int.reduceLT, Int.reduceEq, not_true_eq_false, not_false_eq_true, false_or, or_false, true_or, or_true, ite_not, Int.reduceNeg, Int32.reduceToInt, Nat.reduceAdd, Nat.reduceLeDiff, Nat.reduceLT, Nat.reduceEqDiff, Int.reduceAdd, Int.reduceSub, Int.reduceMul, Nat.zero_le, pk_po_ne, pk_po_eq, pk_po_ix, rI, ne_eq, g1, wz_of g1, e2, if_false, b1, b2, b3, b4, b5, b6, g2, g3, Int.add_zero]
          exact ih3
      have k := spr M' f h (fun p a b => by omega)
      rw [s_184_52]
      simp (disch := omega) only [↓x_c, ↓x_is_2, ↓x_il_2, ↓x_il_1, ↓x_ge, ↓x_al_0, ↓gr_142_56, ↓gr_142_16, ↓gr_142_58, ↓x_imul, ↓x_iadd, ↓gr_142_54, ↓gr_142_55, ↓x_inc_2, ↓x_go, ↓x_is_3, ↓x_il_3, ↓gi_142_21, ↓gr_142_57, ↓gr_142_14, ↓x_isub, ↓x_inc_3, ↓gr_142_53, ↓x_lt, ↓x_eq0, ↓x_eq, ↓x_is_4, ↓x_is_5, ↓x_il_5, ↓x_il_4, ↓x_dup2, ↓x_ne0, ↓x_rt, ↓ld_149, ↓st_149, ↓ld_151, ↓st_151, ↓ld_168, ↓st_168, ↓ld_169, ↓st_169, ↓ld_170, ↓st_170, ↓ld_171, ↓st_171, ↓ld_172, ↓st_172, ↓ld_173, ↓st_173, ↓n_184, ↓s_184_0, ↓s_184_50, ↓s_184_105, ↓s_184_160, ↓s_184_192, ↓s_184_198, ↓s_184_239, ↓s_184_291, ↓s_184_297, ↓s_184_303, ↓pv_i, ↓pv_r, ↓pv_0, ↓pv_l, wz_pk, wz_ti, wz_wz, vI_wz, wz_id, wz_0, List.length_cons, List.length_nil, ↓reduceIte, true_and, and_true, Int.reduceLE, Int.reduceLT, Int.reduceEq, not_true_eq_false, not_false_eq_true, false_or, or_false, true_or, or_true, ite_not, Int.reduceNeg, Int32.reduceToInt, Nat.reduceAdd, Nat.reduceLeDiff, Nat.reduceLT, Nat.reduceEqDiff, Int.reduceAdd, Int.reduceSub, Int.reduceMul, Nat.zero_le, pk_po_ne, pk_po_eq, pk_po_ix, rI, ne_eq, e1, if_false]
      exact k _ _
  have ini : ∀ M', fx [168, 169, 170, 171, 172] M M' → (∀ k : Nat, k < (0 : Nat) → PMk T M' k 0) → EX 184 (sx 184 2) [.ref 142, vI N, vI ((0 : Nat) : Int), .null, .null, .null] [] (mkh X s dh dl t M') Q := by
    refine lp (n := N) (fun n => ∀ M', fx [168, 169, 170, 171, 172] M M' → (∀ k : Nat, k < n → PMk T M' k 0) → EX 184 (sx 184 2) [.ref 142, vI N, vI (n : Int), .null, .null, .null] [] (mkh X s dh dl t M') Q) ?_ ?_
    · intro M' f h
      have k := key M' f h .null .null .null
      have e3 : (N : Int) ≤ N := Int.le_refl _
      rw [s_184_2]
      simp (disch := omega) only [↓x_c, ↓x_is_2, ↓x_il_2, ↓x_il_1, ↓x_ge, ↓x_al_0, ↓gr_142_56, ↓gr_142_16, ↓gr_142_58, ↓x_imul, ↓x_iadd, ↓gr_142_54, ↓gr_142_55, ↓x_inc_2, ↓x_go, ↓x_is_3, ↓x_il_3, ↓gi_142_21, ↓gr_142_57, ↓gr_142_14, ↓x_isub, ↓x_inc_3, ↓gr_142_53, ↓x_lt, ↓x_eq0, ↓x_eq, ↓x_is_4, ↓x_is_5, ↓x_il_5, ↓x_il_4, ↓x_dup2, ↓x_ne0, ↓x_rt, ↓ld_149, ↓st_149, ↓ld_151, ↓st_151, ↓ld_168, ↓st_168, ↓ld_169, ↓st_169, ↓ld_170, ↓st_170, ↓ld_171, ↓st_171, ↓ld_172, ↓st_172, ↓ld_173, ↓st_173, ↓n_184, ↓s_184_0, ↓s_184_50, ↓s_184_105, ↓s_184_160, ↓s_184_192, ↓s_184_198, ↓s_184_239, ↓s_184_291, ↓s_184_297, ↓s_184_303, ↓pv_i, ↓pv_r, ↓pv_0, ↓pv_l, wz_pk, wz_ti, wz_wz, vI_wz, wz_id, wz_0, List.length_cons, List.length_nil, ↓reduceIte, true_and, and_true, Int.reduceLE, Int.reduceLT, Int.reduceEq, not_true_eq_false, not_false_eq_true, false_or, or_false, true_or, or_true, ite_not, Int.reduceNeg, Int32.reduceToInt, Nat.reduceAdd, Nat.reduceLeDiff, Nat.reduceLT, Nat.reduceEqDiff, Int.reduceAdd, Int.reduceSub, Int.reduceMul, Nat.zero_le, pk_po_ne, pk_po_eq, pk_po_ix, rI, ne_eq, e3, if_true]
      exact k
    · intro n hn ih M' f h
      have e3 : ¬ (N : Int) ≤ n := by omega
      obtain ⟨q1, q2, q3, q4, q5, q6⟩ := (hA.fr f) n hn
      have g1 := (hR.fr f).amt (T 87 n) q4.1 q4.2
      have u2 := hH.amt (T 87 n) q4.1 q4.2
      have b7 : 3 * (n : Int) < 27 := by omega
      have b8 : 0 ≤ 3 * (n : Int) := by omega
      have b9 : (n : Int) < 9 := by omega
      have b10 : 0 ≤ (n : Int) := by omega
      have b11 : 3 * T 87 n + 1 < 18 := by omega
      have b12 : 0 ≤ 3 * T 87 n + 1 := by omega
      have k := ih (po (po (po M' 171 n (T 30 (T 87 n))) 169 n (-1)) 170 n (-1)) (((f.pw (by decide)).pw (by decide)).pw (by decide)) (fun k hk => by
        by_cases hkn : k = n
        · subst hkn
          refine ⟨?_, ?_, ?_, fun u hu => by omega⟩
          · rw [pk_po_ne (by decide), pk_po_ne (by decide), pk_po_eq]; exact wz_id (by omega) (by omega)
          · rw [pk_po_ne (by decide), pk_po_eq]; rfl
          · rw [pk_po_eq]; rfl
        · obtain ⟨o1, o2, o3, o4⟩ := h k (by omega)
          refine ⟨?_, ?_, ?_, fun u hu => by omega⟩
          · rw [pk_po_ne (by decide), pk_po_ne (by decide), pk_po_ix (by omega)]; exact o1
          · rw [pk_po_ne (by decide), pk_po_ix (by omega), pk_po_ne (by decide)]; exact o2
          · rw [pk_po_ix (by omega), pk_po_ne (by decide), pk_po_ne (by decide)]; exact o3)
      rw [s_184_2]
      simp (disch := omega) only [↓x_c, ↓x_is_2, ↓x_il_2, ↓x_il_1, ↓x_ge, ↓x_al_0, ↓gr_142_56, ↓gr_142_16, ↓gr_142_58, ↓x_imul, ↓x_iadd, ↓gr_142_54, ↓gr_142_55, ↓x_inc_2, ↓x_go, ↓x_is_3, ↓x_il_3, ↓gi_142_21, ↓gr_142_57, ↓gr_142_14, ↓x_isub, ↓x_inc_3, ↓gr_142_53, ↓x_lt, ↓x_eq0, ↓x_eq, ↓x_is_4, ↓x_is_5, ↓x_il_5, ↓x_il_4, ↓x_dup2, ↓x_ne0, ↓x_rt, ↓ld_149, ↓st_149, ↓ld_151, ↓st_151, ↓ld_168, ↓st_168, ↓ld_169, ↓st_169, ↓ld_170, ↓st_170, ↓ld_171, ↓st_171, ↓ld_172, ↓st_172, ↓ld_173, ↓st_173, ↓n_184, ↓s_184_0, ↓s_184_50, ↓s_184_105, ↓s_184_160, ↓s_184_192, ↓s_184_198, ↓s_184_239, ↓s_184_291, ↓s_184_297, ↓s_184_303, ↓pv_i, ↓pv_r, ↓pv_0, ↓pv_l, wz_pk, wz_ti, wz_wz, vI_wz, wz_id, wz_0, List.length_cons, List.length_nil, ↓reduceIte, true_and, and_true, Int.reduceLE, Int.reduceLT, Int.reduceEq, not_true_eq_false, not_false_eq_true, false_or, or_false, true_or, or_true, ite_not, Int.reduceNeg, Int32.reduceToInt, Nat.reduceAdd, Nat.reduceLeDiff, Nat.reduceLT, Nat.reduceEqDiff, Int.reduceAdd, Int.reduceSub, Int.reduceMul, Nat.zero_le, pk_po_ne, pk_po_eq, pk_po_ix, rI, ne_eq, e3, if_false, q1, g1, b7, b8, b9, b10, b11, b12]
      exact k
  have ini := ini M fx.rfl (fun k hk => by omega)
  simp only [↓x_c, ↓x_is_2, ↓x_il_2, ↓x_il_1, ↓x_ge, ↓x_al_0, ↓gr_142_56, ↓gr_142_16, ↓gr_142_58, ↓x_imul, ↓x_iadd, ↓gr_142_54, ↓gr_142_55, ↓x_inc_2, ↓x_go, ↓x_is_3, ↓x_il_3, ↓gi_142_21, ↓gr_142_57, ↓gr_142_14, ↓x_isub, ↓x_inc_3, ↓gr_142_53, ↓x_lt, ↓x_eq0, ↓x_eq, ↓x_is_4, ↓x_is_5, ↓x_il_5, ↓x_il_4, ↓x_dup2, ↓x_ne0, ↓x_rt, ↓ld_149, ↓st_149, ↓ld_151, ↓st_151, ↓ld_168, ↓st_168, ↓ld_169, ↓st_169, ↓ld_170, ↓st_170, ↓ld_171, ↓st_171, ↓ld_172, ↓st_172, ↓ld_173, ↓st_173, ↓n_184, ↓s_184_0, ↓s_184_50, ↓s_184_105, ↓s_184_160, ↓s_184_192, ↓s_184_198, ↓s_184_239, ↓s_184_291, ↓s_184_297, ↓s_184_303, ↓pv_i, ↓pv_r, ↓pv_0, ↓pv_l, wz_pk, wz_ti, wz_wz, vI_wz, wz_id, wz_0, List.length_cons, List.length_nil, ↓reduceIte, true_and, and_true, Int.reduceLE, Int.reduceLT, Int.reduceEq, not_true_eq_false, not_false_eq_true, false_or, or_false, true_or, or_true, ite_not, Int.reduceNeg, Int32.reduceToInt, Nat.reduceAdd, Nat.reduceLeDiff, Nat.reduceLT, Nat.reduceEqDiff, Int.reduceAdd, Int.reduceSub, Int.reduceMul, Nat.zero_le, pk_po_ne, pk_po_eq, pk_po_ix, rI, ne_eq]
  exact ini
theorem R185 (hR : RR S M) (hI : crs S 78) (hQ : ∀ M', (∀ a, a ≠ 173 → M' a = M a) → AK S M' (S 78 9).toNat → Q (.inl none) (mkh X s dh dl t M')) : CL 185 [.ref 142] (mkh X s dh dl t M) Q := by
  have n1 := c78_proms hI
  have g0 := hR.c.proms
  have key : ∀ M', (∀ a, a ≠ 173 → M' a = M a) → (∀ i, 0 ≤ i → i < ((0 : Nat) : Int) → pk M' 173 i = pk M 166 i) → EX 185 (sx 185 2) [.ref 142, vI ((0 : Nat) : Int)] [] (mkh X s dh dl t M') Q := by
    refine lp (n := (3 * S 78 9).toNat) (fun n => ∀ M', (∀ a, a ≠ 173 → M' a = M a) → (∀ i, 0 ≤ i → i < (n : Int) → pk M' 173 i = pk M 166 i) → EX 185 (sx 185 2) [.ref 142, vI (n : Int)] [] (mkh X s dh dl t M') Q) ?_ ?_
    · intro M' f h
      have g1 : pk M' 142 50 = S 78 9 := by rw [pk_fr f (by decide)]; exact g0
      have e1 : 3 * S 78 9 ≤ (3 * S 78 9).toNat := by omega
      have e := hQ M' f (fun k hk => ⟨by rw [h _ (by omega) (by omega)]; exact hR.c.pd k (by omega) (by omega), by rw [h _ (by omega) (by omega)]; exact hR.c.pm k (by omega) (by omega), by rw [h _ (by omega) (by omega)]; exact hR.c.pf k (by omega) (by omega), c78_pd hI k (by omega) (by omega), c78_pm hI k (by omega) (by omega), c78_pf hI k (by omega) (by omega)⟩)
      rw [s_185_2]
      simp (disch := omega) only [↓x_c, ↓x_is_1, ↓x_il_1, ↓x_al_0, ↓gi_142_50, ↓x_imul, ↓x_ge, ↓gr_142_58, ↓gr_142_48, ↓x_inc_1, ↓x_go, ↓x_rt, ↓ld_166, ↓st_166, ↓ld_173, ↓st_173, ↓n_185, ↓s_185_0, ↓s_185_30, ↓pv_i, ↓pv_r, ↓pv_0, ↓pv_l, wz_pk, wz_ti, wz_wz, vI_wz, wz_id, wz_0, List.length_cons, List.length_nil, ↓reduceIte, true_and, and_true, Int.reduceLE, Int.reduceLT, Int.reduceEq, not_true_eq_false, not_false_eq_true, false_or, or_false, true_or, or_true, ite_not, Int.reduceNeg, Int32.reduceToInt, Nat.reduceAdd, Nat.reduceLeDiff, Nat.reduceLT, Nat.reduceEqDiff, Int.reduceAdd, Int.reduceSub, Int.reduceMul, Nat.zero_le, pk_po_ne, pk_po_eq, pk_po_ix, rI, ne_eq, g1, wz_of g1, e1, if_true]
      exact e
    · intro n hn ih M' f h
      have g1 : pk M' 142 50 = S 78 9 := by rw [pk_fr f (by decide)]; exact g0
      have e1 : ¬ 3 * S 78 9 ≤ n := by omega
      have b1 : (n : Int) < 27 := by omega
      have b2 : (n : Int) < 24 := by omega
      have b3 : 0 ≤ (n : Int) := by omega
      have v := pk_fr f (a := 166) (by decide) n
      have k := ih (po M' 173 n (pk M 166 n)) (po_fr f) (fun i h1 h2 => by
        by_cases hin : i = n
        · subst hin; rw [pk_po_eq]; exact wz_pk
        · rw [pk_po_ix hin]; exact h i h1 (by omega))
      rw [s_185_2]
      simp (disch := omega) only [↓x_c, ↓x_is_1, ↓x_il_1, ↓x_al_0, ↓gi_142_50, ↓x_imul, ↓x_ge, ↓gr_142_58, ↓gr_142_48, ↓x_inc_1, ↓x_go, ↓x_rt, ↓ld_166, ↓st_166, ↓ld_173, ↓st_173, ↓n_185, ↓s_185_0, ↓s_185_30, ↓pv_i, ↓pv_r, ↓pv_0, ↓pv_l, wz_pk, wz_ti, wz_wz, vI_wz, wz_id, wz_0, List.length_cons, List.length_nil, ↓reduceIte, true_and, and_true, Int.reduceLE, Int.reduceLT, Int.reduceEq, not_true_eq_false, not_false_eq_true, false_or, or_false, true_or, or_true, ite_not, Int.reduceNeg, Int32.reduceToInt, Nat.reduceAdd, Nat.reduceLeDiff, Nat.reduceLT, Nat.reduceEqDiff, Int.reduceAdd, Int.reduceSub, Int.reduceMul, Nat.zero_le, pk_po_ne, pk_po_eq, pk_po_ix, rI, ne_eq, g1, wz_of g1, e1, if_false, b1, b2, b3, v]
      exact k
  have key := key M (fun _ _ => rfl) (fun i a b => by omega)
  simp only [↓x_c, ↓x_is_1, ↓x_il_1, ↓x_al_0, ↓gi_142_50, ↓x_imul, ↓x_ge, ↓gr_142_58, ↓gr_142_48, ↓x_inc_1, ↓x_go, ↓x_rt, ↓ld_166, ↓st_166, ↓ld_173, ↓st_173, ↓n_185, ↓s_185_0, ↓s_185_30, ↓pv_i, ↓pv_r, ↓pv_0, ↓pv_l, wz_pk, wz_ti, wz_wz, vI_wz, wz_id, wz_0, List.length_cons, List.length_nil, ↓reduceIte, true_and, and_true, Int.reduceLE, Int.reduceLT, Int.reduceEq, not_true_eq_false, not_false_eq_true, false_or, or_false, true_or, or_true, ite_not, Int.reduceNeg, Int32.reduceToInt, Nat.reduceAdd, Nat.reduceLeDiff, Nat.reduceLT, Nat.reduceEqDiff, Int.reduceAdd, Int.reduceSub, Int.reduceMul, Nat.zero_le, pk_po_ne, pk_po_eq, pk_po_ix, rI, ne_eq]
  exact key
end R68
