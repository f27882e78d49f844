section Mem21
variable {k pc : Nat} {i : MI} {is : List (Nat × MI)} {ls st st0 ls' st' l as : List Value} {h h' : MHp} {Q : MOut → MHp → Prop} {X : Nat × (Nat → Int32)} {s : Bool × Bool} {dh dl : Nat} {t : Nat} {M M' : Mem} {a b c n d f L v y pl : Nat} {x z : Int}
theorem swp_out {s : Bool × Bool} (h : a < 3 ∨ 75 ≤ a) : swp s a = a := by
  unfold swp
  rw [if_neg (by omega), if_neg (by omega)]
theorem swp_hA {s : Bool × Bool} (h : n < 30) : swp s (hA s + n) = 3 + n := by
  obtain ⟨s1, s2⟩ := s
  cases s1 <;> simp only [swp, hA] <;> (repeat' split) <;> first | omega | contradiction
theorem swp_hB {s : Bool × Bool} (h : n < 30) : swp s (hB s + n) = 33 + n := by
  obtain ⟨s1, s2⟩ := s
  cases s1 <;> simp only [swp, hB] <;> (repeat' split) <;> first | omega | contradiction
theorem swp_lA {s : Bool × Bool} (h : n < 6) : swp s (lA s + n) = 63 + n := by
  obtain ⟨s1, s2⟩ := s
  cases s2 <;> simp only [swp, lA] <;> (repeat' split) <;> first | omega | contradiction
theorem swp_lB {s : Bool × Bool} (h : n < 6) : swp s (lB s + n) = 69 + n := by
  obtain ⟨s1, s2⟩ := s
  cases s2 <;> simp only [swp, lB] <;> (repeat' split) <;> first | omega | contradiction
theorem hA_lt {s : Bool × Bool} (h : n < 30) : hA s + n < NCe := by unfold hA NCe; split <;> omega
theorem hB_lt {s : Bool × Bool} (h : n < 30) : hB s + n < NCe := by unfold hB NCe; split <;> omega
theorem lA_lt {s : Bool × Bool} (h : n < 6) : lA s + n < NCe := by unfold lA NCe; split <;> omega
theorem lB_lt {s : Bool × Bool} (h : n < 6) : lB s + n < NCe := by unfold lB NCe; split <;> omega
theorem po_ne {e : Nat} {j : Int} (hne : ¬ (e = d ∧ j = x)) : po M d x z e j = M e j := by unfold po; rw [if_neg hne]
theorem x_iald_g (hS : SH (swp s a) = (0, n, d, f)) (ha : a < NCe) : EX k ((pc, I_iald) :: is) ls (vI x :: .ref a :: st) (mkh X s dh dl t M) Q ↔ (0 ≤ wz x ∧ wz x < n) ∧ EX k is ls (vI (pk M d (f + wz x)) :: st) (mkh X s dh dl t M) Q := by
  have hc : (mkh X s dh dl t M).2.2.2 a = _ := mkh_cell ha
  rw [hS] at hc
  have hl : m_ld (mkh X s dh dl t M) a (Int32.ofInt x) = if m_in (Int32.ofInt x) n then some (if (Int32.ofInt x).toNatClampNeg < n then M d (f + (Int32.ofInt x).toNatClampNeg) else 0) else none := by
    unfold m_ld
    rw [if_pos (Or.inl (show a < (mkh X s dh dl t M).1 from ha)), hc]
    rfl
  by_cases hb : 0 ≤ wz x ∧ wz x < n
  · rw [and_iff_right hb]
    rw [if_pos (m_inz.mpr hb), if_pos (by have := m_at hb.1; omega), m_at hb.1] at hl
    refine EX_n ?_
    show (match m_ld (mkh X s dh dl t M) a (Int32.ofInt x) with | some x => m_n ls (.int x :: st) _ | none => none) = _
    rw [hl, vI_pk]
    rfl
  · refine ⟨fun h1 => absurd h1 (EX_s ?_), fun h1 => absurd h1.1 hb⟩
    rw [if_neg (fun h => hb (m_inz.mp h))] at hl
    show (match m_ld (mkh X s dh dl t M) a (Int32.ofInt x) with | some x => m_n ls (.int x :: st) _ | none => none) = _
    rw [hl]
theorem set_row (hS : SH (swp s a) = (c, n, d, f)) (hc : c = 0 ∨ c = 2) (ha : a < NCe) (hb : 0 ≤ wz x ∧ wz x < n) : m_set (mkh X s dh dl t M) a (.inl (c, n, .inl (upd (fun i => if i < n then M d (f + i) else 0) (Int32.ofInt x).toNatClampNeg (Int32.ofInt z)))) = mkh X s dh dl t (po M d (f + wz x) z) := by
  have hat := m_at hb.1
  have hrow : (fun i : Nat => if i < n then po M d (f + wz x) z d ((f : Int) + i) else (0 : Int32)) = upd (fun i => if i < n then M d (f + i) else 0) (Int32.ofInt x).toNatClampNeg (Int32.ofInt z) := by
    funext i
    unfold upd
    by_cases h1 : i = (Int32.ofInt x).toNatClampNeg
    · rw [if_pos h1, if_pos (by omega)]
      unfold po
      rw [if_pos ⟨rfl, by omega⟩]
    · rw [if_neg h1]
      by_cases h2 : i < n
      · show _ = (if i < n then M d (f + i) else 0)
        rw [if_pos h2, if_pos h2, po_ne (by omega)]
      · show _ = (if i < n then M d (f + i) else 0)
        rw [if_neg h2, if_neg h2]
  have ho : SHo (c, n, d, f) = f := by rcases hc with rfl | rfl <;> rfl
  have hn : SHn (c, n, d, f) = n := by rcases hc with rfl | rfl <;> rfl
  apply mkh_set ha
  · rw [hS]
    rcases hc with rfl | rfl
    · show (Sum.inl (0, n, Sum.inl _) : MCell) = _
      rw [hrow]
    · show (Sum.inl (2, n, Sum.inl _) : MCell) = _
      rw [hrow]
  · intro e j hj
    rw [hS, ho, hn] at hj
    apply po_ne
    rintro ⟨h1, h2⟩
    exact hj ⟨h1, by omega, by omega⟩
theorem x_iast_g (hS : SH (swp s a) = (0, n, d, f)) (ha : a < NCe) : EX k ((pc, I_iast) :: is) ls (vI z :: vI x :: .ref a :: st) (mkh X s dh dl t M) Q ↔ (0 ≤ wz x ∧ wz x < n) ∧ EX k is ls st (mkh X s dh dl t (po M d (f + wz x) z)) Q := by
  have hc : (mkh X s dh dl t M).2.2.2 a = _ := mkh_cell ha
  rw [hS] at hc
  have hm : m_step P_tsw P_txt P_mcl k_dfl I_iast ls (vI z :: vI x :: .ref a :: st) (mkh X s dh dl t M) = if m_in (Int32.ofInt x) n then m_n ls st (m_set (mkh X s dh dl t M) a (.inl (0, n, .inl (upd (fun i => if i < n then M d (f + i) else 0) (Int32.ofInt x).toNatClampNeg (Int32.ofInt z))))) else none := by
    show (if a < (mkh X s dh dl t M).1 then match (mkh X s dh dl t M).2.2.2 a with
      | .inl (0, n, .inl f) => if m_in (Int32.ofInt x) n then m_n ls st (m_set (mkh X s dh dl t M) a (.inl (0, n, .inl (upd f (Int32.ofInt x).toNatClampNeg (Int32.ofInt z))))) else none
      | _ => none else none) = _
    rw [if_pos (show a < (mkh X s dh dl t M).1 from ha), hc]
    rfl
  by_cases hb : 0 ≤ wz x ∧ wz x < n
  · rw [and_iff_right hb]
    refine EX_n ?_
    rw [hm, if_pos (m_inz.mpr hb), set_row hS (Or.inl rfl) ha hb]
    rfl
  · refine ⟨fun h1 => absurd h1 (EX_s ?_), fun h1 => absurd h1.1 hb⟩
    rw [hm, if_neg (fun h => hb (m_inz.mp h))]
theorem x_zald_g (hS : SH (swp s a) = (2, n, d, f)) (ha : a < NCe) : EX k ((pc, I_zald) :: is) ls (vI x :: .ref a :: st) (mkh X s dh dl t M) Q ↔ (0 ≤ wz x ∧ wz x < n) ∧ EX k is ls (vI (pk M d (f + wz x)) :: st) (mkh X s dh dl t M) Q := by
  have hc : (mkh X s dh dl t M).2.2.2 a = _ := mkh_cell ha
  rw [hS] at hc
  have hm : m_step P_tsw P_txt P_mcl k_dfl I_zald ls (vI x :: .ref a :: st) (mkh X s dh dl t M) = if m_in (Int32.ofInt x) n then m_n ls (.int (if (Int32.ofInt x).toNatClampNeg < n then M d (f + (Int32.ofInt x).toNatClampNeg) else 0) :: st) (mkh X s dh dl t M) else none := by
    show (if a < (mkh X s dh dl t M).1 then match (mkh X s dh dl t M).2.2.2 a with
      | .inl (2, n, .inl f) => if m_in (Int32.ofInt x) n then m_n ls (.int (f (Int32.ofInt x).toNatClampNeg) :: st) (mkh X s dh dl t M) else none
      | _ => none else none) = _
    rw [if_pos (show a < (mkh X s dh dl t M).1 from ha), hc]
    rfl
  by_cases hb : 0 ≤ wz x ∧ wz x < n
  · rw [and_iff_right hb]
    refine EX_n ?_
    rw [hm, if_pos (m_inz.mpr hb), if_pos (by have := m_at hb.1; omega), m_at hb.1, vI_pk]
    rfl
  · refine ⟨fun h1 => absurd h1 (EX_s ?_), fun h1 => absurd h1.1 hb⟩
    rw [hm, if_neg (fun h => hb (m_inz.mp h))]
theorem oi_01 : (decide (Int32.ofInt z = 0) || decide (Int32.ofInt z = 1)) = decide (wz z = 0 ∨ wz z = 1) := by
  rw [show (0 : Int32) = Int32.ofInt 0 from rfl, show (1 : Int32) = Int32.ofInt 1 from rfl]
  simp only [oi_eq, Bool.decide_or]
  rfl
theorem x_zast_g (hS : SH (swp s a) = (2, n, d, f)) (ha : a < NCe) : EX k ((pc, I_zast) :: is) ls (vI z :: vI x :: .ref a :: st) (mkh X s dh dl t M) Q ↔ ((0 ≤ wz x ∧ wz x < n) ∧ (wz z = 0 ∨ wz z = 1)) ∧ EX k is ls st (mkh X s dh dl t (po M d (f + wz x) z)) Q := by
  have hc : (mkh X s dh dl t M).2.2.2 a = _ := mkh_cell ha
  rw [hS] at hc
  have hm : m_step P_tsw P_txt P_mcl k_dfl I_zast ls (vI z :: vI x :: .ref a :: st) (mkh X s dh dl t M) = if m_in (Int32.ofInt x) n && (decide (Int32.ofInt z = 0) || decide (Int32.ofInt z = 1)) then m_n ls st (m_set (mkh X s dh dl t M) a (.inl (2, n, .inl (upd (fun i => if i < n then M d (f + i) else 0) (Int32.ofInt x).toNatClampNeg (Int32.ofInt z))))) else none := by
    show (if a < (mkh X s dh dl t M).1 then match (mkh X s dh dl t M).2.2.2 a with
      | .inl (2, n, .inl f) => if m_in (Int32.ofInt x) n && (decide (Int32.ofInt z = 0) || decide (Int32.ofInt z = 1)) then m_n ls st (m_set (mkh X s dh dl t M) a (.inl (2, n, .inl (upd f (Int32.ofInt x).toNatClampNeg (Int32.ofInt z))))) else none
      | _ => none else none) = _
    rw [if_pos (show a < (mkh X s dh dl t M).1 from ha), hc]
    rfl
  have hi : (m_in (Int32.ofInt x) n && (decide (Int32.ofInt z = 0) || decide (Int32.ofInt z = 1))) = true ↔ (0 ≤ wz x ∧ wz x < n) ∧ (wz z = 0 ∨ wz z = 1) := by
    rw [Bool.and_eq_true, oi_01, decide_eq_true_eq, m_inz]
  by_cases hb : (0 ≤ wz x ∧ wz x < n) ∧ (wz z = 0 ∨ wz z = 1)
  · rw [and_iff_right hb]
    refine EX_n ?_
    rw [hm, if_pos (hi.mpr hb), set_row hS (Or.inr rfl) ha hb.1]
    rfl
  · refine ⟨fun h1 => absurd h1 (EX_s ?_), fun h1 => absurd h1.1 hb⟩
    rw [hm, if_neg (fun h => hb (hi.mp h))]
theorem x_gi_g (hS : SH (swp s a) = (5, c, d, 0)) (ha : a < NCe) (hf : (FT c)[f]? = some (0, v)) : EX k ((pc, I_gi f c pl) :: is) ls (.ref a :: st) (mkh X s dh dl t M) Q ↔ EX k is ls (vI (pk M d f) :: st) (mkh X s dh dl t M) Q := by
  have hc : (mkh X s dh dl t M).2.2.2 a = _ := mkh_cell ha
  rw [hS] at hc
  refine EX_n ?_
  show (if a < (mkh X s dh dl t M).1 then match (mkh X s dh dl t M).2.2.2 a with
      | .inr (c', fs) => if c' = c then match fs[f]? with
        | some w => m_n ls (w :: st) (mkh X s dh dl t M)
        | none => none else none
      | _ => none else none) = _
  rw [if_pos (show a < (mkh X s dh dl t M).1 from ha), hc]
  show (if c = c then match (fvs s dh dl a (M d) 0 (FT c))[f]? with
        | some w => m_n ls (w :: st) (mkh X s dh dl t M)
        | none => none else none) = _
  rw [if_pos rfl, fvs_get, hf, vI_pk, Nat.zero_add]
  rfl
theorem x_gr_g (hS : SH (swp s a) = (5, c, d, 0)) (ha : a < NCe) (hf : (FT c)[f]? = some (1, v)) : EX k ((pc, I_gr f c pl) :: is) ls (.ref a :: st) (mkh X s dh dl t M) Q ↔ EX k is ls (.ref (a + v) :: st) (mkh X s dh dl t M) Q := by
  have hc : (mkh X s dh dl t M).2.2.2 a = _ := mkh_cell ha
  rw [hS] at hc
  refine EX_n ?_
  show (if a < (mkh X s dh dl t M).1 then match (mkh X s dh dl t M).2.2.2 a with
      | .inr (c', fs) => if c' = c then match fs[f]? with
        | some w => m_n ls (w :: st) (mkh X s dh dl t M)
        | none => none else none
      | _ => none else none) = _
  rw [if_pos (show a < (mkh X s dh dl t M).1 from ha), hc]
  show (if c = c then match (fvs s dh dl a (M d) 0 (FT c))[f]? with
        | some w => m_n ls (w :: st) (mkh X s dh dl t M)
        | none => none else none) = _
  rw [if_pos rfl, fvs_get, hf]
  rfl
theorem x_gr_a (hS : SH (swp s a) = (5, c, d, 0)) (ha : a < NCe) (hf : (FT c)[f]? = some (2, v)) : EX k ((pc, I_gr f c pl) :: is) ls (.ref a :: st) (mkh X s dh dl t M) Q ↔ EX k is ls (.ref v :: st) (mkh X s dh dl t M) Q := by
  have hc : (mkh X s dh dl t M).2.2.2 a = _ := mkh_cell ha
  rw [hS] at hc
  refine EX_n ?_
  show (if a < (mkh X s dh dl t M).1 then match (mkh X s dh dl t M).2.2.2 a with
      | .inr (c', fs) => if c' = c then match fs[f]? with
        | some w => m_n ls (w :: st) (mkh X s dh dl t M)
        | none => none else none
      | _ => none else none) = _
  rw [if_pos (show a < (mkh X s dh dl t M).1 from ha), hc]
  show (if c = c then match (fvs s dh dl a (M d) 0 (FT c))[f]? with
        | some w => m_n ls (w :: st) (mkh X s dh dl t M)
        | none => none else none) = _
  rw [if_pos rfl, fvs_get, hf]
  rfl
theorem x_gd_g (hS : SH (swp s a) = (5, c, d, 0)) (ha : a < NCe) (hf : (FT c)[f]? = some (3, v)) : EX k ((pc, I_gd f c pl) :: is) ls (.ref a :: st) (mkh X s dh dl t M) Q ↔ EX k is ls (.ref (dyn s dh dl v) :: st) (mkh X s dh dl t M) Q := by
  have hc : (mkh X s dh dl t M).2.2.2 a = _ := mkh_cell ha
  rw [hS] at hc
  refine EX_n ?_
  show (if a < (mkh X s dh dl t M).1 then match (mkh X s dh dl t M).2.2.2 a with
      | .inr (c', fs) => if c' = c then match fs[f]? with
        | some w => m_n ls (w :: st) (mkh X s dh dl t M)
        | none => none else none
      | _ => none else none) = _
  rw [if_pos (show a < (mkh X s dh dl t M).1 from ha), hc]
  show (if c = c then match (fvs s dh dl a (M d) 0 (FT c))[f]? with
        | some w => m_n ls (w :: st) (mkh X s dh dl t M)
        | none => none else none) = _
  rw [if_pos rfl, fvs_get, hf]
  rfl
theorem fvs_set {m m' : Int → Int32} {w : Int32} (l : List (Nat × Nat)) (hf : l[f]? = some (0, v)) (h1 : m' f = w) (h2 : ∀ i : Nat, i ≠ f → m' i = m i) : (fvs s dh dl a m 0 l).set f (.int w) = fvs s dh dl a m' 0 l := by
  apply List.ext_getElem?
  intro g
  rw [List.getElem?_set]
  by_cases hg : f = g
  · subst hg
    have hl : f < l.length := (List.getElem?_eq_some_iff.mp hf).1
    rw [if_pos rfl, if_pos (by rw [fvs_len]; exact hl), fvs_get, hf]
    simp only [Nat.zero_add]
    rw [h1]
  · rw [if_neg hg, fvs_get, fvs_get]
    rw [Nat.zero_add, h2 g (fun h => hg h.symm)]
theorem set_fld (hS : SH (swp s a) = (5, c, d, 0)) (ha : a < NCe) (hf : (FT c)[f]? = some (0, v)) : m_set (mkh X s dh dl t M) a (.inr (c, (fvs s dh dl a (M d) 0 (FT c)).set f (.int (Int32.ofInt z)))) = mkh X s dh dl t (po M d f z) := by
  have hl : f < (FT c).length := (List.getElem?_eq_some_iff.mp hf).1
  apply mkh_set ha
  · rw [hS]
    show (Sum.inr (c, fvs s dh dl a (po M d f z d) 0 (FT c)) : MCell) = _
    rw [← fvs_set (FT c) hf (w := Int32.ofInt z) (m := M d)]
    · unfold po
      rw [if_pos ⟨rfl, rfl⟩]
    · intro i hi
      rw [po_ne (by omega)]
  · intro e j hj
    rw [hS] at hj
    apply po_ne
    rintro ⟨h1, h2⟩
    exact hj ⟨h1, Nat.zero_le _, by show j < 0 + (FT c).length; omega⟩
theorem x_pi_g (hS : SH (swp s a) = (5, c, d, 0)) (ha : a < NCe) (hf : (FT c)[f]? = some (0, v)) : EX k ((pc, I_pi f c pl) :: is) ls (vI z :: .ref a :: st) (mkh X s dh dl t M) Q ↔ EX k is ls st (mkh X s dh dl t (po M d f z)) Q := by
  have hc : (mkh X s dh dl t M).2.2.2 a = _ := mkh_cell ha
  rw [hS] at hc
  have hl : f < (FT c).length := (List.getElem?_eq_some_iff.mp hf).1
  refine EX_n ?_
  show (if a < (mkh X s dh dl t M).1 then match (mkh X s dh dl t M).2.2.2 a with
      | .inr (c', fs) => if c' = c ∧ f < fs.length then (if (0 : Int32) = 0 ∨ ((0 : Int32) = 3 ∧ (Int32.ofInt z = 0 ∨ Int32.ofInt z = 1)) then m_n ls st (m_set (mkh X s dh dl t M) a (.inr (c', fs.set f (.int (Int32.ofInt z))))) else none) else none
      | _ => none else none) = _
  rw [if_pos (show a < (mkh X s dh dl t M).1 from ha), hc]
  show (if c = c ∧ f < (fvs s dh dl a (M d) 0 (FT c)).length then (if (0 : Int32) = 0 ∨ ((0 : Int32) = 3 ∧ (Int32.ofInt z = 0 ∨ Int32.ofInt z = 1)) then m_n ls st (m_set (mkh X s dh dl t M) a (.inr (c, (fvs s dh dl a (M d) 0 (FT c)).set f (.int (Int32.ofInt z))))) else none) else none) = _
  rw [if_pos ⟨rfl, by rw [fvs_len]; exact hl⟩, if_pos (Or.inl rfl), set_fld hS ha hf]
  rfl
theorem x_pz_g (hS : SH (swp s a) = (5, c, d, 0)) (ha : a < NCe) (hf : (FT c)[f]? = some (0, v)) : EX k ((pc, I_pz f c pl) :: is) ls (vI z :: .ref a :: st) (mkh X s dh dl t M) Q ↔ (wz z = 0 ∨ wz z = 1) ∧ EX k is ls st (mkh X s dh dl t (po M d f z)) Q := by
  have hc : (mkh X s dh dl t M).2.2.2 a = _ := mkh_cell ha
  rw [hS] at hc
  have hl : f < (FT c).length := (List.getElem?_eq_some_iff.mp hf).1
  have e : ((3 : Int32) = 0 ∨ ((3 : Int32) = 3 ∧ (Int32.ofInt z = 0 ∨ Int32.ofInt z = 1))) = (wz z = 0 ∨ wz z = 1) := by
    have e2 : (Int32.ofInt z = 0 ∨ Int32.ofInt z = 1) = (wz z = 0 ∨ wz z = 1) := by
      rw [show (0 : Int32) = Int32.ofInt 0 from rfl, show (1 : Int32) = Int32.ofInt 1 from rfl, oi_eq, oi_eq]
      rfl
    rw [e2]
    simp
  have hm : m_step P_tsw P_txt P_mcl k_dfl (I_pz f c pl) ls (vI z :: .ref a :: st) (mkh X s dh dl t M) = if (3 : Int32) = 0 ∨ ((3 : Int32) = 3 ∧ (Int32.ofInt z = 0 ∨ Int32.ofInt z = 1)) then m_n ls st (mkh X s dh dl t (po M d f z)) else none := by
    show (if a < (mkh X s dh dl t M).1 then match (mkh X s dh dl t M).2.2.2 a with
      | .inr (c', fs) => if c' = c ∧ f < fs.length then (if (3 : Int32) = 0 ∨ ((3 : Int32) = 3 ∧ (Int32.ofInt z = 0 ∨ Int32.ofInt z = 1)) then m_n ls st (m_set (mkh X s dh dl t M) a (.inr (c', fs.set f (.int (Int32.ofInt z))))) else none) else none
      | _ => none else none) = _
    rw [if_pos (show a < (mkh X s dh dl t M).1 from ha), hc]
    show (if c = c ∧ f < (fvs s dh dl a (M d) 0 (FT c)).length then (if (3 : Int32) = 0 ∨ ((3 : Int32) = 3 ∧ (Int32.ofInt z = 0 ∨ Int32.ofInt z = 1)) then m_n ls st (m_set (mkh X s dh dl t M) a (.inr (c, (fvs s dh dl a (M d) 0 (FT c)).set f (.int (Int32.ofInt z))))) else none) else none) = _
    rw [if_pos ⟨rfl, by rw [fvs_len]; exact hl⟩, set_fld hS ha hf]
  by_cases hz : wz z = 0 ∨ wz z = 1
  · rw [and_iff_right hz]
    refine EX_n ?_
    rw [hm, if_pos (by rw [e]; exact hz)]
    rfl
  · refine ⟨fun h1 => absurd h1 (EX_s ?_), fun h1 => absurd h1.1 hz⟩
    rw [hm, if_neg (by rw [e]; exact hz)]
/-- a row of a table of rows, the first where there is no such -/
def cl (x : Int) (n : Nat) : Int := if 0 ≤ wz x ∧ wz x < n then wz x else 0
theorem cl_id (h1 : 0 ≤ x) (h2 : x < n) (h3 : n ≤ 2147483648) : cl x n = x := by
  unfold cl
  rw [wz_id (by omega) (by omega), if_pos ⟨h1, h2⟩]
theorem cl_lo : 0 ≤ cl x n := by unfold cl; split <;> omega
theorem cl_hi (h : 0 < n) : cl x n < n := by unfold cl; split <;> omega
theorem x_aald_g {tg : Nat} (hS : SH (swp s a) = (tg, n, d, f)) (htg : tg = 3) (ha : a < NCe) : EX k ((pc, I_aald tg) :: is) ls (vI x :: .ref a :: st) (mkh X s dh dl t M) Q ↔ (0 ≤ wz x ∧ wz x < n) ∧ EX k is ls (.ref (a + 1 + (cl x n).toNat) :: st) (mkh X s dh dl t M) Q := by
  have hc : (mkh X s dh dl t M).2.2.2 a = _ := mkh_cell ha
  subst htg
  rw [hS] at hc
  have hm : m_step P_tsw P_txt P_mcl k_dfl (I_aald 3) ls (vI x :: .ref a :: st) (mkh X s dh dl t M) = if 3 = 3 ∧ m_in (Int32.ofInt x) n = true then (match (if (Int32.ofInt x).toNatClampNeg < n then some (a + 1 + (Int32.ofInt x).toNatClampNeg) else none) with | some b => m_n ls (.ref b :: st) (mkh X s dh dl t M) | none => none) else none := by
    show (if a < (mkh X s dh dl t M).1 then match (mkh X s dh dl t M).2.2.2 a with
      | .inl (t', n, .inr (.inr f)) => if t' = 3 ∧ m_in (Int32.ofInt x) n = true then match f (Int32.ofInt x).toNatClampNeg with
        | some b => m_n ls (.ref b :: st) (mkh X s dh dl t M)
        | none => none else none
      | _ => none else none) = _
    rw [if_pos (show a < (mkh X s dh dl t M).1 from ha), hc]
    rfl
  by_cases hb : 0 ≤ wz x ∧ wz x < n
  · rw [and_iff_right hb]
    refine EX_n ?_
    have hat := m_at hb.1
    rw [hm, if_pos ⟨rfl, m_inz.mpr hb⟩, if_pos (by omega)]
    have e : (cl x n).toNat = (Int32.ofInt x).toNatClampNeg := by
      unfold cl
      rw [if_pos hb]
      omega
    rw [e]
    rfl
  · refine ⟨fun h1 => absurd h1 (EX_s ?_), fun h1 => absurd h1.1 hb⟩
    rw [hm, if_neg (fun h => hb (m_inz.mp h.2))]
theorem x_aald_4 : EX k ((pc, I_aald 4) :: is) ls (vI x :: .ref 90 :: st) (mkh X s dh dl t M) Q ↔ (0 ≤ wz x ∧ wz x < 3) ∧ EX k is ls (.ref (106 + 12 * (cl x 3).toNat) :: st) (mkh X s dh dl t M) Q := by
  have hc : (mkh X s dh dl t M).2.2.2 90 = _ := mkh_cell (by decide)
  rw [show SH (swp s 90) = (4, 3, 90, 0) by rw [swp_out (by decide)]; rfl] at hc
  have hm : m_step P_tsw P_txt P_mcl k_dfl (I_aald 4) ls (vI x :: .ref 90 :: st) (mkh X s dh dl t M) = if 4 = 4 ∧ m_in (Int32.ofInt x) 3 = true then (match (if (Int32.ofInt x).toNatClampNeg < 3 then some (106 + 12 * (Int32.ofInt x).toNatClampNeg) else none) with | some b => m_n ls (.ref b :: st) (mkh X s dh dl t M) | none => none) else none := by
    show (if 90 < (mkh X s dh dl t M).1 then match (mkh X s dh dl t M).2.2.2 90 with
      | .inl (t', n, .inr (.inr f)) => if t' = 4 ∧ m_in (Int32.ofInt x) n = true then match f (Int32.ofInt x).toNatClampNeg with
        | some b => m_n ls (.ref b :: st) (mkh X s dh dl t M)
        | none => none else none
      | _ => none else none) = _
    rw [if_pos (show 90 < (mkh X s dh dl t M).1 from by show 90 < NCe; decide), hc]
    rfl
  by_cases hb : 0 ≤ wz x ∧ wz x < 3
  · rw [and_iff_right hb]
    refine EX_n ?_
    have hat := m_at hb.1
    rw [hm, if_pos ⟨rfl, m_inz.mpr hb⟩, if_pos (by omega)]
    have e : (cl x 3).toNat = (Int32.ofInt x).toNatClampNeg := by
      unfold cl
      rw [if_pos (show 0 ≤ wz x ∧ wz x < (3 : Nat) by omega)]
      omega
    rw [e]
    rfl
  · refine ⟨fun h1 => absurd h1 (EX_s ?_), fun h1 => absurd h1.1 hb⟩
    rw [hm, if_neg (fun h => hb (m_inz.mp h.2))]
theorem x_alen_g (hS : SH (swp s a) = (0, n, d, f)) (ha : a < NCe) : EX k ((pc, I_alen) :: is) ls (.ref a :: st) (mkh X s dh dl t M) Q ↔ EX k is ls (vI n :: st) (mkh X s dh dl t M) Q := by
  have hc : (mkh X s dh dl t M).2.2.2 a = _ := mkh_cell ha
  rw [hS] at hc
  refine EX_n ?_
  show (if a < (mkh X s dh dl t M).1 ∨ a = mS then match (mkh X s dh dl t M).2.2.2 a with
      | .inl (0, n, .inl _) => m_n ls (.int (Int32.ofNat n) :: st) (mkh X s dh dl t M)
      | _ => none else none) = _
  rw [if_pos (Or.inl (show a < (mkh X s dh dl t M).1 from ha)), hc]
  rw [vI, Int32.ofInt_eq_ofNat]
  rfl
theorem mkh_scr : (mkh X s dh dl t M).2.2.2 mS = .inl (0, X.1, .inl X.2) := by simp only [mkh, if_true]
theorem x_slen : EX k ((pc, I_alen) :: is) ls (.ref mS :: st) (mkh X s dh dl t M) Q ↔ EX k is ls (vI X.1 :: st) (mkh X s dh dl t M) Q := by
  refine EX_n ?_
  show (if mS < (mkh X s dh dl t M).1 ∨ mS = mS then match (mkh X s dh dl t M).2.2.2 mS with
      | .inl (0, n, .inl _) => m_n ls (.int (Int32.ofNat n) :: st) (mkh X s dh dl t M)
      | _ => none else none) = _
  rw [if_pos (Or.inr rfl), mkh_scr, vI, Int32.ofInt_eq_ofNat]
  rfl
theorem x_sld : EX k ((pc, I_iald) :: is) ls (vI x :: .ref mS :: st) (mkh X s dh dl t M) Q ↔ (0 ≤ wz x ∧ wz x < X.1) ∧ EX k is ls (vI (X.2 (wz x).toNat).toInt :: st) (mkh X s dh dl t M) Q := by
  have hl : m_ld (mkh X s dh dl t M) mS (Int32.ofInt x) = if m_in (Int32.ofInt x) X.1 then some (X.2 (Int32.ofInt x).toNatClampNeg) else none := by
    unfold m_ld
    rw [if_pos (Or.inr rfl), mkh_scr]
    rfl
  by_cases hb : 0 ≤ wz x ∧ wz x < X.1
  · rw [and_iff_right hb]
    rw [if_pos (m_inz.mpr hb)] at hl
    refine EX_n ?_
    show (match m_ld (mkh X s dh dl t M) mS (Int32.ofInt x) with | some x => m_n ls (.int x :: st) _ | none => none) = _
    have hat := m_at hb.1
    rw [hl, vI_ti, show (wz x).toNat = (Int32.ofInt x).toNatClampNeg by omega]
    rfl
  · refine ⟨fun h1 => absurd h1 (EX_s ?_), fun h1 => absurd h1.1 hb⟩
    rw [if_neg (fun h => hb (m_inz.mp h))] at hl
    show (match m_ld (mkh X s dh dl t M) mS (Int32.ofInt x) with | some x => m_n ls (.int x :: st) _ | none => none) = _
    rw [hl]
theorem x_lald : EX k ((pc, I_lald) :: is) ls (vI 0 :: .ref 175 :: st) (mkh X s dh dl t M) Q ↔ EX k is ls (vJ (pk M 175 0) :: st) (mkh X s dh dl t M) Q := by
  have hc : (mkh X s dh dl t M).2.2.2 175 = _ := mkh_cell (by decide)
  rw [show SH (swp s 175) = (1, 1, 175, 0) by rw [swp_out (by decide)]; rfl] at hc
  refine EX_n ?_
  show (if 175 < (mkh X s dh dl t M).1 then match (mkh X s dh dl t M).2.2.2 175 with
      | .inl (1, n, .inr (.inl f)) => if m_in (Int32.ofInt 0) n then m_n ls (.long (f (Int32.ofInt 0).toNatClampNeg) :: st) (mkh X s dh dl t M) else none
      | _ => none else none) = _
  rw [if_pos (show 175 < (mkh X s dh dl t M).1 from by show 175 < NCe; decide), hc]
  show (if m_in (Int32.ofInt 0) 1 then m_n ls (.long (M 175 0).toInt64 :: st) (mkh X s dh dl t M) else none) = _
  rw [if_pos (by decide)]
  rfl
theorem x_last : EX k ((pc, I_last) :: is) ls (vJ z :: vI 0 :: .ref 175 :: st) (mkh X s dh dl t M) Q ↔ EX k is ls st (m_set (mkh X s dh dl t M) 175 (.inl (1, 1, .inr (.inl (vp_updL (fun i => if i < 1 then (M 175 (0 + i)).toInt64 else 0) 0 (Int64.ofInt z)))))) Q := by
  have hc : (mkh X s dh dl t M).2.2.2 175 = _ := mkh_cell (by decide)
  rw [show SH (swp s 175) = (1, 1, 175, 0) by rw [swp_out (by decide)]; rfl] at hc
  refine EX_n ?_
  show (if 175 < (mkh X s dh dl t M).1 then match (mkh X s dh dl t M).2.2.2 175 with
      | .inl (1, n, .inr (.inl f)) => if m_in (Int32.ofInt 0) n then m_n ls st (m_set (mkh X s dh dl t M) 175 (.inl (1, n, .inr (.inl (vp_updL f (Int32.ofInt 0).toNatClampNeg (Int64.ofInt z)))))) else none
      | _ => none else none) = _
  rw [if_pos (show 175 < (mkh X s dh dl t M).1 from by show 175 < NCe; decide), hc]
  show (if m_in (Int32.ofInt 0) 1 then m_n ls st (m_set (mkh X s dh dl t M) 175 (.inl (1, 1, .inr (.inl (vp_updL (fun i => if i < 1 then (M 175 (0 + i)).toInt64 else 0) 0 (Int64.ofInt z)))))) else none) = _
  rw [if_pos (by decide)]
  rfl
theorem set_out (h1 : -2147483648 ≤ z) (h2 : z < 2147483648) : m_set (mkh X s dh dl t M) 175 (.inl (1, 1, .inr (.inl (vp_updL (fun i => if i < 1 then (M 175 (0 + i)).toInt64 else 0) 0 (Int64.ofInt z))))) = mkh X s dh dl t (po M 175 0 z) := by
  apply mkh_set (by decide)
  · rw [show SH (swp s 175) = (1, 1, 175, 0) by rw [swp_out (by decide)]; rfl]
    show (Sum.inl (1, 1, Sum.inr (Sum.inl (fun i : Nat => if i < 1 then (po M 175 0 z 175 ((0 : Nat) + (i : Int))).toInt64 else 0))) : MCell) = _
    have e : (fun i : Nat => if i < 1 then (po M 175 0 z 175 ((0 : Nat) + (i : Int))).toInt64 else 0) = vp_updL (fun i => if i < 1 then (M 175 (0 + i)).toInt64 else 0) 0 (Int64.ofInt z) := by
      funext i
      unfold vp_updL
      by_cases hi : i = 0
      · subst hi
        rw [if_pos (by decide), if_pos rfl]
        unfold po
        rw [if_pos ⟨rfl, by simp⟩, ← Int64.ofInt_int32ToInt]
        congr 1
        exact wz_id h1 h2
      · rw [if_neg hi, if_neg (by omega)]
        show 0 = (if i < 1 then (M 175 (0 + i)).toInt64 else 0)
        rw [if_neg (by omega)]
    rw [e]
  · intro e j hj
    rw [show SH (swp s 175) = (1, 1, 175, 0) by rw [swp_out (by decide)]; rfl] at hj
    apply po_ne
    rintro ⟨h3, h4⟩
    exact hj ⟨h3, Nat.zero_le _, by show j < 0 + 1; omega⟩
theorem EX_v {rest : List Value} (hd : st0.drop n = .ref a :: st) (ht : .ref a :: (st0.take n).reverse = as) (hS : SH (swp s a) = (5, c, d, 0)) (ha : a < NCe) (hc : c = P_mcl y) (hm : (m_spread as).length ≤ P_mxl y) : EX k ((pc, I_v y n pl) :: is) ls st0 (mkh X s dh dl t M) Q ↔ st.length ≤ 4 ∧ CL y as (mkh X s dh dl t M) (bk k pc is ls st Q) := by
  have hce : (mkh X s dh dl t M).2.2.2 a = _ := mkh_cell ha
  rw [hS] at hce
  have hs : m_step P_tsw P_txt P_mcl k_dfl (I_v y n pl) ls st0 (mkh X s dh dl t M) = if st.length ≤ 4 ∧ a < (mkh X s dh dl t M).1 then (if c = P_mcl y then m_k y as st else none) else none := by
    show (match st0.drop n with
      | .ref a :: rest => if rest.length ≤ 4 ∧ a < (mkh X s dh dl t M).1 then match (mkh X s dh dl t M).2.2.2 a with
        | .inr (c, _) => if c = P_mcl y then m_k y (.ref a :: (st0.take n).reverse) rest else none
        | _ => none else none
      | _ => none) = _
    rw [hd]
    show (if st.length ≤ 4 ∧ a < (mkh X s dh dl t M).1 then match (mkh X s dh dl t M).2.2.2 a with
        | .inr (c, _) => if c = P_mcl y then m_k y (.ref a :: (st0.take n).reverse) st else none
        | _ => none else none) = _
    rw [hce, ht]
    rfl
  by_cases hl : st.length ≤ 4
  · rw [and_iff_right hl]
    refine EX_k ?_ hm
    rw [hs, if_pos ⟨hl, ha⟩, if_pos hc]
    rfl
  · refine ⟨fun h1 => absurd h1 (EX_s ?_), fun h1 => absurd h1.1 hl⟩
    rw [hs, if_neg (fun h => hl h.1)]
theorem EX_st (hd : st0.drop n = st) (hn : n ≤ st0.length) (ht : (st0.take n).reverse = as) (hm : (m_spread as).length ≤ P_mxl y) : EX k ((pc, I_s y n pl) :: is) ls st0 h Q ↔ st.length ≤ 4 ∧ CL y as h (bk k pc is ls st Q) := by
  have hs : m_step P_tsw P_txt P_mcl k_dfl (I_s y n pl) ls st0 h = if n ≤ st0.length ∧ st.length ≤ 4 then m_k y as st else none := by
    show (if n ≤ st0.length ∧ (st0.drop n).length ≤ 4 then m_k y (st0.take n).reverse (st0.drop n) else none) = _
    rw [hd, ht]
  by_cases hl : st.length ≤ 4
  · rw [and_iff_right hl]
    refine EX_k ?_ hm
    rw [hs, if_pos ⟨hn, hl⟩]
    rfl
  · refine ⟨fun h1 => absurd h1 (EX_s ?_), fun h1 => absurd h1.1 hl⟩
    rw [hs, if_neg (fun h => hl h.2)]
theorem EX_kk (hi : i = I_k y n pl ∨ i = I_kn y n pl) (hd : st0.drop n = .ref a :: st) (ht : .ref a :: (st0.take n).reverse = as) (ha : a < NCe) (hm : (m_spread as).length ≤ P_mxl y) : EX k ((pc, i) :: is) ls st0 (mkh X s dh dl t M) Q ↔ st.length ≤ 4 ∧ CL y as (mkh X s dh dl t M) (bk k pc is ls st Q) := by
  have hs : m_step P_tsw P_txt P_mcl k_dfl i ls st0 (mkh X s dh dl t M) = if st.length ≤ 4 ∧ a < (mkh X s dh dl t M).1 then m_k y as st else none := by
    have : m_step P_tsw P_txt P_mcl k_dfl i ls st0 (mkh X s dh dl t M) = (match st0.drop n with
      | .ref a :: rest => if rest.length ≤ 4 ∧ a < (mkh X s dh dl t M).1 then m_k y (.ref a :: (st0.take n).reverse) rest else none
      | _ => none) := by rcases hi with rfl | rfl <;> rfl
    rw [this, hd]
    show (if st.length ≤ 4 ∧ a < (mkh X s dh dl t M).1 then m_k y (.ref a :: (st0.take n).reverse) st else none) = _
    rw [ht]
  by_cases hl : st.length ≤ 4
  · rw [and_iff_right hl]
    refine EX_k ?_ hm
    rw [hs, if_pos ⟨hl, ha⟩]
    rfl
  · refine ⟨fun h1 => absurd h1 (EX_s ?_), fun h1 => absurd h1.1 hl⟩
    rw [hs, if_neg (fun h => hl h.1)]
/-- one row is made like another -/
def cpm (M : Mem) (b a n : Nat) : Mem := fun e j => if e = b ∧ 0 ≤ j ∧ j < n then M a j else M e j
theorem pk_cpm {e : Nat} {j : Int} : pk (cpm M b a n) e j = if e = b ∧ 0 ≤ j ∧ j < n then pk M a j else pk M e j := by
  unfold pk cpm
  split <;> rfl
theorem x_cp_g {idx : Nat} (hSa : SH (swp s a) = (0, n, a, 0)) (hSb : SH (swp s b) = (0, n, b, 0)) (ha : a < NCe) (hb : b < NCe) (hx : wz x = n) : EX k ((pc, I_cp idx pl) :: is) ls (vI x :: vI 0 :: .ref b :: vI 0 :: .ref a :: st) (mkh X s dh dl t M) Q ↔ st.length ≤ 4 ∧ EX k is ls st (mkh X s dh dl t (cpm M b a n)) Q := by
  have hca : (mkh X s dh dl t M).2.2.2 a = _ := mkh_cell ha
  have hcb : (mkh X s dh dl t M).2.2.2 b = _ := mkh_cell hb
  rw [hSa] at hca
  rw [hSb] at hcb
  have hat := m_at (i := x) (by omega)
  have h0 : (Int32.ofInt 0).toNatClampNeg = 0 := rfl
  have hx0 : ¬ Int32.ofInt x < 0 := by rw [Int32.lt_iff_toInt_lt]; show ¬ wz x < 0; omega
  have hm : m_step P_tsw P_txt P_mcl k_dfl (I_cp idx pl) ls (vI x :: vI 0 :: .ref b :: vI 0 :: .ref a :: st) (mkh X s dh dl t M) = if st.length ≤ 4 ∧ a < (mkh X s dh dl t M).1 ∧ b < (mkh X s dh dl t M).1 then m_n ls st (m_set (mkh X s dh dl t M) b (.inl (0, n, .inl (va_cpy (fun i => if i < n then M a ((0 : Nat) + (i : Int)) else 0) (fun i => if i < n then M b ((0 : Nat) + (i : Int)) else 0) 0 0 n)))) else none := by
    show (if st.length ≤ 4 ∧ a < (mkh X s dh dl t M).1 ∧ b < (mkh X s dh dl t M).1 then match (mkh X s dh dl t M).2.2.2 a, (mkh X s dh dl t M).2.2.2 b with
      | .inl (0, n0, .inl f), .inl (0, n1, .inl g) => if ¬ Int32.ofInt 0 < 0 ∧ ¬ Int32.ofInt 0 < 0 ∧ ¬ Int32.ofInt x < 0 ∧ (Int32.ofInt 0).toNatClampNeg + (Int32.ofInt x).toNatClampNeg ≤ n0 ∧ (Int32.ofInt 0).toNatClampNeg + (Int32.ofInt x).toNatClampNeg ≤ n1 then
          m_n ls st (m_set (mkh X s dh dl t M) b (.inl (0, n1, .inl (va_cpy f g (Int32.ofInt 0).toNatClampNeg (Int32.ofInt 0).toNatClampNeg (Int32.ofInt x).toNatClampNeg)))) else none
      | _, _ => none else none) = _
    rw [hca, hcb]
    show (if st.length ≤ 4 ∧ a < (mkh X s dh dl t M).1 ∧ b < (mkh X s dh dl t M).1 then (if ¬ Int32.ofInt 0 < 0 ∧ ¬ Int32.ofInt 0 < 0 ∧ ¬ Int32.ofInt x < 0 ∧ (Int32.ofInt 0).toNatClampNeg + (Int32.ofInt x).toNatClampNeg ≤ n ∧ (Int32.ofInt 0).toNatClampNeg + (Int32.ofInt x).toNatClampNeg ≤ n then _ else none) else none) = _
    rw [if_pos (c := ¬ Int32.ofInt 0 < 0 ∧ _) ⟨by decide, by decide, hx0, by omega, by omega⟩, h0, show (Int32.ofInt x).toNatClampNeg = n by omega]
  by_cases hl : st.length ≤ 4
  · rw [and_iff_right hl]
    refine EX_n ?_
    rw [hm, if_pos ⟨hl, ha, hb⟩]
    have e : m_set (mkh X s dh dl t M) b (.inl (0, n, .inl (va_cpy (fun i => if i < n then M a ((0 : Nat) + (i : Int)) else 0) (fun i => if i < n then M b ((0 : Nat) + (i : Int)) else 0) 0 0 n))) = mkh X s dh dl t (cpm M b a n) := by
      apply mkh_set hb
      · rw [hSb]
        show (Sum.inl (0, n, Sum.inl (fun i : Nat => if i < n then cpm M b a n b ((0 : Nat) + (i : Int)) else 0)) : MCell) = _
        have e2 : (fun i : Nat => if i < n then cpm M b a n b ((0 : Nat) + (i : Int)) else 0) = va_cpy (fun i => if i < n then M a ((0 : Nat) + (i : Int)) else 0) (fun i => if i < n then M b ((0 : Nat) + (i : Int)) else 0) 0 0 n := by
          funext i
          unfold va_cpy cpm
          by_cases hi : i < n
          · rw [if_pos hi, if_pos ⟨rfl, by omega, by omega⟩, if_pos ⟨Nat.zero_le _, by omega⟩]
            simp only [Nat.zero_add, Nat.sub_zero]
            rw [if_pos hi]
          · rw [if_neg hi, if_neg (by omega)]
            show 0 = (if i < n then M b ((0 : Nat) + (i : Int)) else 0)
            rw [if_neg hi]
        rw [e2]
      · intro e j hj
        rw [hSb] at hj
        unfold cpm
        rw [if_neg]
        rintro ⟨h1, h2, h3⟩
        exact hj ⟨h1, Nat.zero_le _, by show j < 0 + n; omega⟩
    rw [e]
    rfl
  · refine ⟨fun h1 => absurd h1 (EX_s ?_), fun h1 => absurd h1.1 hl⟩
    rw [hm, if_neg (fun h => hl h.1)]
end Mem21
