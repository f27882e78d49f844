/-! THE EXCHANGE OF THE TWO HOUSES, AND OF THE TWO LAWS (swapgen.py) -/
def swH (M : Mem) : Mem := fun a => if 3 ≤ a ∧ a < 33 then M (a + 30) else if 33 ≤ a ∧ a < 63 then M (a - 30) else M a
theorem SH_swH : (List.range 11).all (fun i => (List.range 16).all (fun j => !(decide (3 ≤ 16 * i + j) && decide (16 * i + j < 33)) || (decide (SH (16 * i + j + 30) = ((SH (16 * i + j)).1, (SH (16 * i + j)).2.1, (SH (16 * i + j)).2.2.1 + 30, (SH (16 * i + j)).2.2.2)) && decide (3 ≤ (SH (16 * i + j)).2.2.1) && decide ((SH (16 * i + j)).2.2.1 < 33) && (decide ((SH (16 * i + j)).1 ≠ 5) || decide ((SH (16 * i + j)).2.1 = 3))))) = true := by decide +kernel
theorem SH_sxH {a : Nat} (h1 : 3 ≤ a) (h2 : a < 33) : SH (a + 30) = ((SH a).1, (SH a).2.1, (SH a).2.2.1 + 30, (SH a).2.2.2) ∧ (3 ≤ (SH a).2.2.1 ∧ (SH a).2.2.1 < 33) ∧ ((SH a).1 = 5 → (SH a).2.1 = 3) := by
  have h6 := List.all_eq_true.mp SH_swH (a / 16) (List.mem_range.mpr (by omega))
  have h7 := List.all_eq_true.mp h6 (a % 16) (List.mem_range.mpr (by omega))
  rw [show 16 * (a / 16) + a % 16 = a by omega] at h7
  simp only [h1, h2, decide_true, Bool.and_self, Bool.not_true, Bool.false_or, Bool.and_eq_true, Bool.or_eq_true, decide_eq_true_eq] at h7
  obtain ⟨⟨⟨e1, e2⟩, e3⟩, e4⟩ := h7
  exact ⟨e1, ⟨e2, e3⟩, fun h => e4.resolve_left (fun h5 => h5 h)⟩
theorem SH_soH : (List.range 11).all (fun i => (List.range 16).all (fun j => (decide (3 ≤ 16 * i + j) && decide (16 * i + j < 63)) || ((decide ((SH (16 * i + j)).2.2.1 < 3) || decide (63 ≤ (SH (16 * i + j)).2.2.1)) && (decide ((SH (16 * i + j)).1 ≠ 5) || decide ((SH (16 * i + j)).2.1 ≠ 10) || decide (16 * i + j = 0))))) = true := by decide +kernel
theorem fvs_swH {s s' : Bool × Bool} {dh dl a c : Nat} {m : Int → Int32} (hc : c ≠ 10) : fvs s' dh dl a m 0 (FT c) = fvs s dh dl a m 0 (FT c) := by
  match c, hc with
  | 0, _ => rfl
  | 1, _ => rfl
  | 2, _ => rfl
  | 3, _ => rfl
  | 4, _ => rfl
  | 5, _ => rfl
  | 6, _ => rfl
  | 7, _ => rfl
  | 8, _ => rfl
  | 9, _ => rfl
  | 10, h => exact absurd rfl h
  | 11, _ => rfl
  | c + 12, _ => rfl
theorem cel_swH {s s' : Bool × Bool} {dh dl a : Nat} {M M' : Mem} {k n i i' f : Nat} (hi : M' i' = M i) (hk : k = 5 → n ≠ 10) : cel s' dh dl M' a (k, n, i', f) = cel s dh dl M a (k, n, i, f) := by
  have hk2 : k = 0 ∨ k = 1 ∨ k = 2 ∨ k = 3 ∨ k = 4 ∨ k = 5 ∨ 6 ≤ k := by omega
  rcases hk2 with rfl | rfl | rfl | rfl | rfl | rfl | hk2
  · simp only [cel]; rw [hi]
  · simp only [cel]; rw [hi]
  · simp only [cel]; rw [hi]
  · simp only [cel]
  · simp only [cel]
  · simp only [cel]; rw [hi, fvs_swH (hk rfl)]
  · unfold cel
    split
    all_goals first | (rename_i h; simp only [Prod.mk.injEq] at h; omega) | skip
    split
    all_goals first | (rename_i h; simp only [Prod.mk.injEq] at h; omega) | rfl
theorem set_swH {X : Nat × (Nat → Int32)} {s : Bool × Bool} {dh dl t : Nat} {M : Mem} {fs : List Value} (hfs : fvs (!s.1, s.2) dh dl 0 (M 0) 0 (FT 10) = fs) : m_set (mkh X s dh dl t M) 0 (.inr (10, fs)) = mkh X (!s.1, s.2) dh dl t (swH M) := by
  unfold m_set mkh
  refine Prod.ext rfl (Prod.ext rfl (Prod.ext rfl ?_))
  show m_upd _ 0 _ = _
  funext b
  unfold m_upd
  by_cases hb : b = 0
  · subst hb
    rw [if_pos rfl]
    show _ = (if (0 : Nat) = mS then (Sum.inl (0, X.1, Sum.inl X.2) : MCell) else if 0 < NCe then cel (!s.1, s.2) dh dl (swH M) 0 (SH (swp (!s.1, s.2) 0)) else .inl (0, 0, .inl (fun _ => 0)))
    rw [if_neg (by decide), if_pos (by decide), swp_out (by decide)]
    show _ = (Sum.inr (10, fvs (!s.1, s.2) dh dl 0 (swH M 0) 0 (FT 10)) : MCell)
    rw [← hfs]
    rfl
  · rw [if_neg hb]
    show (if b = mS then _ else if b < NCe then _ else _) = (if b = mS then _ else if b < NCe then _ else _)
    by_cases h3 : b = mS
    · rw [if_pos h3, if_pos h3]
    · rw [if_neg h3, if_neg h3]
      by_cases h4 : b < NCe
      · rw [if_pos h4, if_pos h4]
        by_cases h5 : 3 ≤ b ∧ b < 63
        · have hsw : (3 ≤ swp s b ∧ swp s b < 33 ∧ swp (!s.1, s.2) b = swp s b + 30) ∨ (33 ≤ swp s b ∧ swp s b < 63 ∧ swp (!s.1, s.2) b + 30 = swp s b) := by
            obtain ⟨s1, s2⟩ := s
            cases s1 <;> cases s2 <;> simp only [swp, Bool.not_true, Bool.not_false] <;> (repeat' split) <;> first | omega | contradiction
          rcases hsw with ⟨e1, e2, e3⟩ | ⟨e1, e2, e3⟩
          · obtain ⟨x1, x2, x3⟩ := SH_sxH e1 e2
            rw [e3, x1]
            generalize SH (swp s b) = q at *
            obtain ⟨k, n, i, f⟩ := q
            simp only at *
            exact (cel_swH (by unfold swH; rw [if_neg (by omega), if_pos (by omega), show i + 30 - 30 = i by omega]) (fun h => by rw [x3 h]; decide)).symm
          · obtain ⟨x1, x2, x3⟩ := SH_sxH (a := swp (!s.1, s.2) b) (by omega) (by omega)
            rw [e3] at x1
            rw [x1]
            generalize SH (swp (!s.1, s.2) b) = q at *
            obtain ⟨k, n, i, f⟩ := q
            simp only at *
            exact (cel_swH (by unfold swH; rw [if_pos (by omega)]) (fun h => by rw [x3 h]; decide)).symm
        · have hsw : swp (!s.1, s.2) b = swp s b ∧ ¬ (3 ≤ swp s b ∧ swp s b < 63) := by
            obtain ⟨s1, s2⟩ := s
            cases s1 <;> cases s2 <;> simp only [swp, Bool.not_true, Bool.not_false] <;> (repeat' split) <;> first | omega | contradiction
          rw [hsw.1]
          have h8 := swp_lt (s := s) h4
          unfold NCe at h8
          have h6 := List.all_eq_true.mp SH_soH (swp s b / 16) (List.mem_range.mpr (by omega))
          have h7 := List.all_eq_true.mp h6 (swp s b % 16) (List.mem_range.mpr (by omega))
          rw [show 16 * (swp s b / 16) + swp s b % 16 = swp s b by omega] at h7
          simp only [Bool.or_eq_true, Bool.and_eq_true, decide_eq_true_eq] at h7
          have h9 := h7.resolve_left hsw.2
          have h10 : swp s b ≠ 0 := fun h => hb (swp_inj (s := s) (by rw [h, swp_out (by decide)]))
          generalize SH (swp s b) = q at *
          obtain ⟨k, n, i, f⟩ := q
          simp only at *
          exact (cel_swH (by unfold swH; rw [if_neg (by omega), if_neg (by omega)]) (fun h => by rcases h9.2 with (h11 | h11) | h11; exact absurd h h11; exact h11; exact absurd h11 h10)).symm
      · rw [if_neg h4, if_neg h4]
theorem m_set2 {h : MHp} {a : Nat} {x y : MCell} : m_set (m_set h a x) a y = m_set h a y := by
  unfold m_set m_upd
  refine Prod.ext rfl (Prod.ext rfl (Prod.ext rfl ?_))
  funext b
  show (if b = a then y else if b = a then x else h.2.2.2 b) = (if b = a then y else h.2.2.2 b)
  split <;> rfl
theorem x_swH {X : Nat × (Nat → Int32)} {s : Bool × Bool} {dh dl t : Nat} {M : Mem} {Q : MOut → MHp → Prop} {k p1 p2 p3 p4 l1 l2 n1 n2 : Nat} {is : List (Nat × MI)} {v : Value} {l st : List Value} : EX k ((p1, I_pd 3 10 l1) :: (p2, I_al 0 n1) :: (p3, I_al 2 n2) :: (p4, I_pd 4 10 l2) :: is) (.ref 0 :: v :: .ref (hA s) :: l) (.ref (hB s) :: .ref 0 :: st) (mkh X s dh dl t M) Q ↔ EX k is (.ref 0 :: v :: .ref (hA s) :: l) st (mkh X (!s.1, s.2) dh dl t (swH M)) Q := by
  have hS : SH (swp s 0) = (5, 10, 0, 0) := by rw [swp_out (by decide)]; rfl
  have hc : (mkh X s dh dl t M).2.2.2 0 = _ := mkh_cell (by decide)
  rw [hS] at hc
  have step : ∀ (fs : List Value) (f pl : Nat) (b : Nat) (st' : List Value) (h : MHp), 0 < h.1 → h.2.2.2 0 = .inr (10, fs) → f < fs.length → m_step P_tsw P_txt P_mcl k_dfl (I_pd f 10 pl) (.ref 0 :: v :: .ref (hA s) :: l) (.ref b :: .ref 0 :: st') h = some (.inl (.ref 0 :: v :: .ref (hA s) :: l, st', m_set h 0 (.inr (10, fs.set f (.ref b))))) := by
    intro fs f pl b st' h h0 h1 h2
    show (if 0 < h.1 then match h.2.2.2 0 with
      | .inr (c', fs) => if c' = 10 ∧ f < fs.length then (if (2 : Int32) = 1 ∨ (2 : Int32) = 2 then m_n (.ref 0 :: v :: .ref (hA s) :: l) st' (m_set h 0 (.inr (c', fs.set f (.ref b)))) else none) else none
      | _ => none else none) = _
    rw [if_pos h0, h1]
    show (if 10 = 10 ∧ f < fs.length then (if (2 : Int32) = 1 ∨ (2 : Int32) = 2 then m_n (.ref 0 :: v :: .ref (hA s) :: l) st' (m_set h 0 (.inr (10, fs.set f (.ref b)))) else none) else none) = _
    rw [if_pos (show 10 = 10 ∧ f < fs.length from ⟨rfl, h2⟩), if_pos (show (2 : Int32) = 1 ∨ (2 : Int32) = 2 from Or.inr rfl)]
    rfl
  have hl : 3 < (fvs s dh dl 0 (M 0) 0 (FT 10)).length := by rw [fvs_len]; decide
  rw [EX_n (step (fvs s dh dl 0 (M 0) 0 (FT 10)) 3 l1 (hB s) st (mkh X s dh dl t M) (by show 0 < NCe; decide) hc hl)]
  rw [x_al_0, x_al_2]
  rw [EX_n (step ((fvs s dh dl 0 (M 0) 0 (FT 10)).set 3 (.ref (hB s))) 4 l2 (hA s) st _ (by show 0 < NCe; decide) (by simp only [m_set, m_upd, if_true]) (by rw [List.length_set, fvs_len]; decide))]
  rw [m_set2, set_swH]
  obtain ⟨s1, s2⟩ := s
  cases s1 <;> cases s2 <;> rfl
def swL (M : Mem) : Mem := fun a => if 63 ≤ a ∧ a < 69 then M (a + 6) else if 69 ≤ a ∧ a < 75 then M (a - 6) else M a
theorem SH_swL : (List.range 11).all (fun i => (List.range 16).all (fun j => !(decide (63 ≤ 16 * i + j) && decide (16 * i + j < 69)) || (decide (SH (16 * i + j + 6) = ((SH (16 * i + j)).1, (SH (16 * i + j)).2.1, (SH (16 * i + j)).2.2.1 + 6, (SH (16 * i + j)).2.2.2)) && decide (63 ≤ (SH (16 * i + j)).2.2.1) && decide ((SH (16 * i + j)).2.2.1 < 69) && (decide ((SH (16 * i + j)).1 ≠ 5) || decide ((SH (16 * i + j)).2.1 = 5))))) = true := by decide +kernel
theorem SH_sxL {a : Nat} (h1 : 63 ≤ a) (h2 : a < 69) : SH (a + 6) = ((SH a).1, (SH a).2.1, (SH a).2.2.1 + 6, (SH a).2.2.2) ∧ (63 ≤ (SH a).2.2.1 ∧ (SH a).2.2.1 < 69) ∧ ((SH a).1 = 5 → (SH a).2.1 = 5) := by
  have h6 := List.all_eq_true.mp SH_swL (a / 16) (List.mem_range.mpr (by omega))
  have h7 := List.all_eq_true.mp h6 (a % 16) (List.mem_range.mpr (by omega))
  rw [show 16 * (a / 16) + a % 16 = a by omega] at h7
  simp only [h1, h2, decide_true, Bool.and_self, Bool.not_true, Bool.false_or, Bool.and_eq_true, Bool.or_eq_true, decide_eq_true_eq] at h7
  obtain ⟨⟨⟨e1, e2⟩, e3⟩, e4⟩ := h7
  exact ⟨e1, ⟨e2, e3⟩, fun h => e4.resolve_left (fun h5 => h5 h)⟩
theorem SH_soL : (List.range 11).all (fun i => (List.range 16).all (fun j => (decide (63 ≤ 16 * i + j) && decide (16 * i + j < 75)) || ((decide ((SH (16 * i + j)).2.2.1 < 63) || decide (75 ≤ (SH (16 * i + j)).2.2.1)) && (decide ((SH (16 * i + j)).1 ≠ 5) || decide ((SH (16 * i + j)).2.1 ≠ 10) || decide (16 * i + j = 0))))) = true := by decide +kernel
theorem fvs_swL {s s' : Bool × Bool} {dh dl a c : Nat} {m : Int → Int32} (hc : c ≠ 10) : fvs s' dh dl a m 0 (FT c) = fvs s dh dl a m 0 (FT c) := by
  match c, hc with
  | 0, _ => rfl
  | 1, _ => rfl
  | 2, _ => rfl
  | 3, _ => rfl
  | 4, _ => rfl
  | 5, _ => rfl
  | 6, _ => rfl
  | 7, _ => rfl
  | 8, _ => rfl
  | 9, _ => rfl
  | 10, h => exact absurd rfl h
  | 11, _ => rfl
  | c + 12, _ => rfl
theorem cel_swL {s s' : Bool × Bool} {dh dl a : Nat} {M M' : Mem} {k n i i' f : Nat} (hi : M' i' = M i) (hk : k = 5 → n ≠ 10) : cel s' dh dl M' a (k, n, i', f) = cel s dh dl M a (k, n, i, f) := by
  have hk2 : k = 0 ∨ k = 1 ∨ k = 2 ∨ k = 3 ∨ k = 4 ∨ k = 5 ∨ 6 ≤ k := by omega
  rcases hk2 with rfl | rfl | rfl | rfl | rfl | rfl | hk2
  · simp only [cel]; rw [hi]
  · simp only [cel]; rw [hi]
  · simp only [cel]; rw [hi]
  · simp only [cel]
  · simp only [cel]
  · simp only [cel]; rw [hi, fvs_swL (hk rfl)]
  · unfold cel
    split
    all_goals first | (rename_i h; simp only [Prod.mk.injEq] at h; omega) | skip
    split
    all_goals first | (rename_i h; simp only [Prod.mk.injEq] at h; omega) | rfl
theorem set_swL {X : Nat × (Nat → Int32)} {s : Bool × Bool} {dh dl t : Nat} {M : Mem} {fs : List Value} (hfs : fvs (s.1, !s.2) dh dl 0 (M 0) 0 (FT 10) = fs) : m_set (mkh X s dh dl t M) 0 (.inr (10, fs)) = mkh X (s.1, !s.2) dh dl t (swL M) := by
  unfold m_set mkh
  refine Prod.ext rfl (Prod.ext rfl (Prod.ext rfl ?_))
  show m_upd _ 0 _ = _
  funext b
  unfold m_upd
  by_cases hb : b = 0
  · subst hb
    rw [if_pos rfl]
    show _ = (if (0 : Nat) = mS then (Sum.inl (0, X.1, Sum.inl X.2) : MCell) else if 0 < NCe then cel (s.1, !s.2) dh dl (swL M) 0 (SH (swp (s.1, !s.2) 0)) else .inl (0, 0, .inl (fun _ => 0)))
    rw [if_neg (by decide), if_pos (by decide), swp_out (by decide)]
    show _ = (Sum.inr (10, fvs (s.1, !s.2) dh dl 0 (swL M 0) 0 (FT 10)) : MCell)
    rw [← hfs]
    rfl
  · rw [if_neg hb]
    show (if b = mS then _ else if b < NCe then _ else _) = (if b = mS then _ else if b < NCe then _ else _)
    by_cases h3 : b = mS
    · rw [if_pos h3, if_pos h3]
    · rw [if_neg h3, if_neg h3]
      by_cases h4 : b < NCe
      · rw [if_pos h4, if_pos h4]
        by_cases h5 : 63 ≤ b ∧ b < 75
        · have hsw : (63 ≤ swp s b ∧ swp s b < 69 ∧ swp (s.1, !s.2) b = swp s b + 6) ∨ (69 ≤ swp s b ∧ swp s b < 75 ∧ swp (s.1, !s.2) b + 6 = swp s b) := by
            obtain ⟨s1, s2⟩ := s
            cases s1 <;> cases s2 <;> simp only [swp, Bool.not_true, Bool.not_false] <;> (repeat' split) <;> first | omega | contradiction
          rcases hsw with ⟨e1, e2, e3⟩ | ⟨e1, e2, e3⟩
          · obtain ⟨x1, x2, x3⟩ := SH_sxL e1 e2
            rw [e3, x1]
            generalize SH (swp s b) = q at *
            obtain ⟨k, n, i, f⟩ := q
            simp only at *
            exact (cel_swL (by unfold swL; rw [if_neg (by omega), if_pos (by omega), show i + 6 - 6 = i by omega]) (fun h => by rw [x3 h]; decide)).symm
          · obtain ⟨x1, x2, x3⟩ := SH_sxL (a := swp (s.1, !s.2) b) (by omega) (by omega)
            rw [e3] at x1
            rw [x1]
            generalize SH (swp (s.1, !s.2) b) = q at *
            obtain ⟨k, n, i, f⟩ := q
            simp only at *
            exact (cel_swL (by unfold swL; rw [if_pos (by omega)]) (fun h => by rw [x3 h]; decide)).symm
        · have hsw : swp (s.1, !s.2) b = swp s b ∧ ¬ (63 ≤ swp s b ∧ swp s b < 75) := by
            obtain ⟨s1, s2⟩ := s
            cases s1 <;> cases s2 <;> simp only [swp, Bool.not_true, Bool.not_false] <;> (repeat' split) <;> first | omega | contradiction
          rw [hsw.1]
          have h8 := swp_lt (s := s) h4
          unfold NCe at h8
          have h6 := List.all_eq_true.mp SH_soL (swp s b / 16) (List.mem_range.mpr (by omega))
          have h7 := List.all_eq_true.mp h6 (swp s b % 16) (List.mem_range.mpr (by omega))
          rw [show 16 * (swp s b / 16) + swp s b % 16 = swp s b by omega] at h7
          simp only [Bool.or_eq_true, Bool.and_eq_true, decide_eq_true_eq] at h7
          have h9 := h7.resolve_left hsw.2
          have h10 : swp s b ≠ 0 := fun h => hb (swp_inj (s := s) (by rw [h, swp_out (by decide)]))
          generalize SH (swp s b) = q at *
          obtain ⟨k, n, i, f⟩ := q
          simp only at *
          exact (cel_swL (by unfold swL; rw [if_neg (by omega), if_neg (by omega)]) (fun h => by rcases h9.2 with (h11 | h11) | h11; exact absurd h h11; exact h11; exact absurd h11 h10)).symm
      · rw [if_neg h4, if_neg h4]
theorem m_set3 {h : MHp} {a : Nat} {x y : MCell} : m_set (m_set h a x) a y = m_set h a y := by
  unfold m_set m_upd
  refine Prod.ext rfl (Prod.ext rfl (Prod.ext rfl ?_))
  funext b
  show (if b = a then y else if b = a then x else h.2.2.2 b) = (if b = a then y else h.2.2.2 b)
  split <;> rfl
theorem x_swL {X : Nat × (Nat → Int32)} {s : Bool × Bool} {dh dl t : Nat} {M : Mem} {Q : MOut → MHp → Prop} {k p1 p2 p3 p4 l1 l2 n1 n2 : Nat} {is : List (Nat × MI)} {v : Value} {l st : List Value} : EX k ((p1, I_pd 5 10 l1) :: (p2, I_al 0 n1) :: (p3, I_al 2 n2) :: (p4, I_pd 6 10 l2) :: is) (.ref 0 :: v :: .ref (lA s) :: l) (.ref (lB s) :: .ref 0 :: st) (mkh X s dh dl t M) Q ↔ EX k is (.ref 0 :: v :: .ref (lA s) :: l) st (mkh X (s.1, !s.2) dh dl t (swL M)) Q := by
  have hS : SH (swp s 0) = (5, 10, 0, 0) := by rw [swp_out (by decide)]; rfl
  have hc : (mkh X s dh dl t M).2.2.2 0 = _ := mkh_cell (by decide)
  rw [hS] at hc
  have step : ∀ (fs : List Value) (f pl : Nat) (b : Nat) (st' : List Value) (h : MHp), 0 < h.1 → h.2.2.2 0 = .inr (10, fs) → f < fs.length → m_step P_tsw P_txt P_mcl k_dfl (I_pd f 10 pl) (.ref 0 :: v :: .ref (lA s) :: l) (.ref b :: .ref 0 :: st') h = some (.inl (.ref 0 :: v :: .ref (lA s) :: l, st', m_set h 0 (.inr (10, fs.set f (.ref b))))) := by
    intro fs f pl b st' h h0 h1 h2
    show (if 0 < h.1 then match h.2.2.2 0 with
      | .inr (c', fs) => if c' = 10 ∧ f < fs.length then (if (2 : Int32) = 1 ∨ (2 : Int32) = 2 then m_n (.ref 0 :: v :: .ref (lA s) :: l) st' (m_set h 0 (.inr (c', fs.set f (.ref b)))) else none) else none
      | _ => none else none) = _
    rw [if_pos h0, h1]
    show (if 10 = 10 ∧ f < fs.length then (if (2 : Int32) = 1 ∨ (2 : Int32) = 2 then m_n (.ref 0 :: v :: .ref (lA s) :: l) st' (m_set h 0 (.inr (10, fs.set f (.ref b)))) else none) else none) = _
    rw [if_pos (show 10 = 10 ∧ f < fs.length from ⟨rfl, h2⟩), if_pos (show (2 : Int32) = 1 ∨ (2 : Int32) = 2 from Or.inr rfl)]
    rfl
  have hl : 5 < (fvs s dh dl 0 (M 0) 0 (FT 10)).length := by rw [fvs_len]; decide
  rw [EX_n (step (fvs s dh dl 0 (M 0) 0 (FT 10)) 5 l1 (lB s) st (mkh X s dh dl t M) (by show 0 < NCe; decide) hc hl)]
  rw [x_al_0, x_al_2]
  rw [EX_n (step ((fvs s dh dl 0 (M 0) 0 (FT 10)).set 5 (.ref (lB s))) 6 l2 (lA s) st _ (by show 0 < NCe; decide) (by simp only [m_set, m_upd, if_true]) (by rw [List.length_set, fvs_len]; decide))]
  rw [m_set3, set_swL]
  obtain ⟨s1, s2⟩ := s
  cases s1 <;> cases s2 <;> rfl
