/-! TWO HEAPS THAT NO RUN TELLS APART -/
def CE (c d : MCell) : Prop := (∃ n, ∃ x : Nat → Int32, c = .inl (7, n, .inl x)) ∨ (∃ k n f g, c = .inl (k, n, .inl f) ∧ d = .inl (k, n, .inl g) ∧ ∀ i, i < n → f i = g i) ∨ (∃ k n f g, c = .inl (k, n, .inr (.inl f)) ∧ d = .inl (k, n, .inr (.inl g)) ∧ ∀ i, i < n → f i = g i) ∨ (∃ k n f g, c = .inl (k, n, .inr (.inr f)) ∧ d = .inl (k, n, .inr (.inr g)) ∧ ∀ i, i < n → f i = g i) ∨ (∃ p, c = .inr p ∧ d = .inr p)
def HE (c0 : MCell) (h h2 : MHp) : Prop := h.1 = h2.1 ∧ h.2.1 = h2.2.1 ∧ h.2.2.1 = h2.2.2.1 ∧ h.1 ≤ 51000 ∧ h2.2.2.2 mS = c0 ∧ ∀ a, (a < h.1 ∨ a = mS) → CE (h.2.2.2 a) (h2.2.2.2 a)
def AR (c0 : MCell) : MAct → MAct → Prop
  | .inl (l, st, h), .inl (l', st', h') => l = l' ∧ st = st' ∧ HE c0 h h'
  | .inr (.inl (L, l, st, h)), .inr (.inl (L', l', st', h')) => L = L' ∧ l = l' ∧ st = st' ∧ HE c0 h h'
  | .inr (.inr (.inl (r, h))), .inr (.inr (.inl (r', h'))) => r = r' ∧ HE c0 h h'
  | .inr (.inr (.inr q)), .inr (.inr (.inr q')) => q = q'
  | _, _ => False
theorem CE.i {k n : Nat} {f : Nat → Int32} {d : MCell} (h : CE (.inl (k, n, .inl f)) d) (hk : ¬ k = 7) : ∃ g, d = .inl (k, n, .inl g) ∧ ∀ i, i < n → f i = g i := by
  rcases h with ⟨n', x, h⟩ | ⟨k', n', f', g, h, h2, h3⟩ | ⟨k', n', f', g, h, h2, h3⟩ | ⟨k', n', f', g, h, h2, h3⟩ | ⟨p, h, h2⟩
  · injection h with h; injection h with h _; exact absurd h hk
  · injection h with h; injection h with h4 h; injection h with h5 h; injection h with h6; subst h4 h5 h6; exact ⟨g, h2, h3⟩
  · injection h with h; injection h with h4 h; injection h with h5 h; cases h
  · injection h with h; injection h with h4 h; injection h with h5 h; cases h
  · cases h
theorem CE.j {k n : Nat} {f : Nat → Int64} {d : MCell} (h : CE (.inl (k, n, .inr (.inl f))) d) : ∃ g, d = .inl (k, n, .inr (.inl g)) ∧ ∀ i, i < n → f i = g i := by
  rcases h with ⟨n', x, h⟩ | ⟨k', n', f', g, h, h2, h3⟩ | ⟨k', n', f', g, h, h2, h3⟩ | ⟨k', n', f', g, h, h2, h3⟩ | ⟨p, h, h2⟩
  · injection h with h; injection h with h4 h; injection h with h5 h; cases h
  · injection h with h; injection h with h4 h; injection h with h5 h; cases h
  · injection h with h; injection h with h4 h; injection h with h5 h; injection h with h6; injection h6 with h6; subst h4 h5 h6; exact ⟨g, h2, h3⟩
  · injection h with h; injection h with h4 h; injection h with h5 h; injection h with h6; cases h6
  · cases h
theorem CE.r {k n : Nat} {f : Nat → Option Nat} {d : MCell} (h : CE (.inl (k, n, .inr (.inr f))) d) : ∃ g, d = .inl (k, n, .inr (.inr g)) ∧ ∀ i, i < n → f i = g i := by
  rcases h with ⟨n', x, h⟩ | ⟨k', n', f', g, h, h2, h3⟩ | ⟨k', n', f', g, h, h2, h3⟩ | ⟨k', n', f', g, h, h2, h3⟩ | ⟨p, h, h2⟩
  · injection h with h; injection h with h4 h; injection h with h5 h; cases h
  · injection h with h; injection h with h4 h; injection h with h5 h; cases h
  · injection h with h; injection h with h4 h; injection h with h5 h; injection h with h6; cases h6
  · injection h with h; injection h with h4 h; injection h with h5 h; injection h with h6; injection h6 with h6; subst h4 h5 h6; exact ⟨g, h2, h3⟩
  · cases h
theorem CE.o {p : Nat × List Value} {d : MCell} (h : CE (.inr p) d) : d = .inr p := by
  rcases h with ⟨n', x, h⟩ | ⟨k', n', f', g, h, h2, h3⟩ | ⟨k', n', f', g, h, h2, h3⟩ | ⟨k', n', f', g, h, h2, h3⟩ | ⟨q, h, h2⟩
  · cases h
  · cases h
  · cases h
  · cases h
  · injection h with h; subst h; exact h2
theorem HE.set {c0 : MCell} {h h2 : MHp} {a : Nat} {x y : MCell} (hr : HE c0 h h2) (ha : a < h.1) (hx : CE x y) : HE c0 (m_set h a x) (m_set h2 a y) := by
  obtain ⟨e1, e2, e3, e4, e5, e6⟩ := hr
  refine ⟨e1, e2, e3, e4, ?_, ?_⟩
  · show m_upd h2.2.2.2 a y mS = c0
    unfold m_upd
    rw [if_neg (by unfold mS; omega)]
    exact e5
  · intro b hb
    show CE (m_upd h.2.2.2 a x b) (m_upd h2.2.2.2 a y b)
    unfold m_upd
    by_cases c : b = a
    · rw [if_pos c, if_pos c]; exact hx
    · rw [if_neg c, if_neg c]; exact e6 b hb
theorem HE.push {c0 : MCell} {h h2 : MHp} {x : MCell} {n : Nat} (hr : HE c0 h h2) (ha : h.1 < 50000) (hx : CE x x) : HE c0 (m_push h x n) (m_push h2 x n) := by
  obtain ⟨e1, e2, e3, e4, e5, e6⟩ := hr
  refine ⟨by show h.1 + 1 = h2.1 + 1; rw [e1], by show h.2.1 + n = h2.2.1 + n; rw [e2], e3, by show h.1 + 1 ≤ 51000; omega, ?_, ?_⟩
  · show m_upd h2.2.2.2 h2.1 x mS = c0
    unfold m_upd
    rw [if_neg (by unfold mS; omega)]
    exact e5
  · intro b hb
    show CE (m_upd h.2.2.2 h.1 x b) (m_upd h2.2.2.2 h2.1 x b)
    unfold m_upd
    rw [← e1]
    have hb' : b < h.1 + 1 ∨ b = mS := hb
    by_cases c : b = h.1
    · rw [if_pos c, if_pos c]; exact hx
    · rw [if_neg c, if_neg c]; exact e6 b (by omega)
theorem HE.thr {c0 : MCell} {h h2 : MHp} (hr : HE c0 h h2) : HE c0 (h.1, h.2.1, h.2.2.1 + 1, h.2.2.2) (h2.1, h2.2.1, h2.2.2.1 + 1, h2.2.2.2) := by
  obtain ⟨e1, e2, e3, e4, e5, e6⟩ := hr
  exact ⟨e1, e2, by show h.2.2.1 + 1 = h2.2.2.1 + 1; rw [e3], e4, e5, e6⟩
theorem T1n {o a b c : Nat} {v : Int32} {ls st : List Value} {h h2 : MHp} {c0 : MCell} {x : MAct} (hr : HE c0 h h2) (ho : o < 25 ∨ (50 ≤ o ∧ o ≤ 53)) (hs : m_step P_tsw P_txt P_mcl k_dfl (o, a, b, c, v) ls st h = some x) : ∃ y, m_step P_tsw P_txt P_mcl k_dfl (o, a, b, c, v) ls st h2 = some y ∧ AR c0 x y := by
  have hh : o = 0 ∨ o = 1 ∨ o = 2 ∨ o = 3 ∨ o = 4 ∨ o = 5 ∨ o = 6 ∨ o = 7 ∨ o = 8 ∨ o = 9 ∨ o = 10 ∨ o = 11 ∨ o = 12 ∨ o = 13 ∨ o = 14 ∨ o = 15 ∨ o = 16 ∨ o = 17 ∨ o = 18 ∨ o = 19 ∨ o = 20 ∨ o = 21 ∨ o = 22 ∨ o = 23 ∨ o = 24 ∨ o = 50 ∨ o = 51 ∨ o = 52 ∨ o = 53 := by omega
  have ht := hr.thr
  rcases hh with rfl | rfl | rfl | rfl | rfl | rfl | rfl | rfl | rfl | rfl | rfl | rfl | rfl | rfl | rfl | rfl | rfl | rfl | rfl | rfl | rfl | rfl | rfl | rfl | rfl | rfl | rfl | rfl | rfl
  all_goals simp only [m_step] at hs
  all_goals (repeat' split at hs)
  all_goals (try cases hs)
  all_goals (simp_all [m_step, m_n, m_j, m_d, m_k, AR])
theorem m_in_lt {i : Int32} {n : Nat} (h : m_in i n = true) : i.toNatClampNeg < n := by
  unfold m_in at h
  simp at h
  first | exact h.2 | omega
theorem upd_e {f g : Nat → Int32} {n k : Nat} {x : Int32} (h : ∀ i, i < n → f i = g i) : ∀ i, i < n → upd f k x i = upd g k x i := by
  intro i hi
  unfold upd
  split
  · rfl
  · exact h i hi
theorem updL_e {f g : Nat → Int64} {n k : Nat} {x : Int64} (h : ∀ i, i < n → f i = g i) : ∀ i, i < n → vp_updL f k x i = vp_updL g k x i := by
  intro i hi
  unfold vp_updL
  split
  · rfl
  · exact h i hi
theorem up_e {f g : Nat → Option Nat} {n k : Nat} {x : Option Nat} (h : ∀ i, i < n → f i = g i) : ∀ i, i < n → va_up f k x i = va_up g k x i := by
  intro i hi
  unfold va_up
  split
  · rfl
  · exact h i hi
theorem T1a {o a b c : Nat} {v : Int32} {ls st : List Value} {h h2 : MHp} {c0 : MCell} {x : MAct} (hr : HE c0 h h2) (ho : 25 ≤ o ∧ o ≤ 33) (hs : m_arr (o, a, b, c, v) ls st h = some x) : ∃ y, m_arr (o, a, b, c, v) ls st h2 = some y ∧ AR c0 x y := by
  have hr' := hr
  obtain ⟨e1, e2, e3, e4, e5, e6⟩ := hr'
  have hh : o = 25 ∨ o = 26 ∨ o = 27 ∨ o = 28 ∨ o = 29 ∨ o = 30 ∨ o = 31 ∨ o = 32 ∨ o = 33 := by omega
  rcases hh with rfl | rfl | rfl | rfl | rfl | rfl | rfl | rfl | rfl
  all_goals simp only [m_arr] at hs ⊢
  · -- iald
    split at hs
    · rename_i i q st
      unfold m_ld at hs ⊢
      rw [← e1]
      by_cases hb : q < h.1 ∨ q = mS
      · rw [if_pos hb] at hs ⊢
        have ce := e6 q hb
        split at hs
        · rename_i y hy
          split at hy
          · rename_i n f hc
            rw [hc] at ce
            obtain ⟨g, g1, g2⟩ := ce.i (by decide)
            split at hy
            · rename_i hin
              injection hy with hy
              injection hs with hs
              subst hs hy
              rw [g1]
              simp only [hin, if_true]
              exact ⟨_, rfl, rfl, by rw [g2 _ (m_in_lt hin)], hr⟩
            · cases hy
          · cases hy
        · cases hs
      · rw [if_neg hb] at hs
        cases hs
    · cases hs
  · -- iast
    split at hs
    · rename_i z i q st
      rw [← e1]
      split at hs
      · rename_i hb
        rw [if_pos hb]
        have ce := e6 q (Or.inl hb)
        split at hs
        · rename_i n f hc
          rw [hc] at ce
          obtain ⟨g, g1, g2⟩ := ce.i (by decide)
          rw [g1]
          split at hs
          · rename_i hin
            injection hs with hs
            subst hs
            simp only [hin, if_true]
            exact ⟨_, rfl, rfl, rfl, hr.set hb (Or.inr (Or.inl ⟨_, _, _, _, rfl, rfl, upd_e g2⟩))⟩
          · cases hs
        · cases hs
      · cases hs
    · cases hs
  · -- zald
    split at hs
    · rename_i i q st
      rw [← e1]
      split at hs
      · rename_i hb
        rw [if_pos hb]
        have ce := e6 q (Or.inl hb)
        split at hs
        · rename_i n f hc
          rw [hc] at ce
          obtain ⟨g, g1, g2⟩ := ce.i (by decide)
          rw [g1]
          split at hs
          · rename_i hin
            injection hs with hs
            subst hs
            simp only [hin, if_true]
            exact ⟨_, rfl, rfl, by rw [g2 _ (m_in_lt hin)], hr⟩
          · cases hs
        · cases hs
      · cases hs
    · cases hs
  · -- zast
    split at hs
    · rename_i z i q st
      rw [← e1]
      split at hs
      · rename_i hb
        rw [if_pos hb]
        have ce := e6 q (Or.inl hb)
        split at hs
        · rename_i n f hc
          rw [hc] at ce
          obtain ⟨g, g1, g2⟩ := ce.i (by decide)
          rw [g1]
          split at hs
          · rename_i hin
            injection hs with hs
            subst hs
            simp only [hin, if_true]
            exact ⟨_, rfl, rfl, rfl, hr.set hb (Or.inr (Or.inl ⟨_, _, _, _, rfl, rfl, upd_e g2⟩))⟩
          · cases hs
        · cases hs
      · cases hs
    · cases hs
  · -- lald
    split at hs
    · rename_i i q st
      rw [← e1]
      split at hs
      · rename_i hb
        rw [if_pos hb]
        have ce := e6 q (Or.inl hb)
        split at hs
        · rename_i n f hc
          rw [hc] at ce
          obtain ⟨g, g1, g2⟩ := ce.j
          rw [g1]
          split at hs
          · rename_i hin
            injection hs with hs
            subst hs
            simp only [hin, if_true]
            exact ⟨_, rfl, rfl, by rw [g2 _ (m_in_lt hin)], hr⟩
          · cases hs
        · cases hs
      · cases hs
    · cases hs
  · -- last
    split at hs
    · rename_i z i q st
      rw [← e1]
      split at hs
      · rename_i hb
        rw [if_pos hb]
        have ce := e6 q (Or.inl hb)
        split at hs
        · rename_i n f hc
          rw [hc] at ce
          obtain ⟨g, g1, g2⟩ := ce.j
          rw [g1]
          split at hs
          · rename_i hin
            injection hs with hs
            subst hs
            simp only [hin, if_true]
            exact ⟨_, rfl, rfl, rfl, hr.set hb (Or.inr (Or.inr (Or.inl ⟨_, _, _, _, rfl, rfl, updL_e g2⟩)))⟩
          · cases hs
        · cases hs
      · cases hs
    · cases hs
  · -- aald
    split at hs
    · rename_i i q st
      rw [← e1]
      split at hs
      · rename_i hb
        rw [if_pos hb]
        have ce := e6 q (Or.inl hb)
        split at hs
        · rename_i k n f hc
          rw [hc] at ce
          obtain ⟨g, g1, g2⟩ := ce.r
          rw [g1]
          split at hs
          · rename_i hin
            have g3 := g2 _ (m_in_lt hin.2)
            split at hs
            · rename_i bb hbb
              injection hs with hs
              subst hs
              rw [hbb] at g3
              simp only [hin, and_self, if_true, ← g3]
              exact ⟨_, rfl, rfl, rfl, hr⟩
            · cases hs
          · cases hs
        · cases hs
      · cases hs
    · cases hs
  · -- aast
    split at hs
    · rename_i w i q st
      rw [← e1]
      split at hs
      · rename_i hb
        rw [if_pos hb]
        have ce := e6 q (Or.inl hb.1)
        have cw := e6 w (Or.inl hb.2)
        split at hs
        · rename_i n f fs hc hd
          rw [hc] at ce
          rw [hd] at cw
          obtain ⟨g, g1, g2⟩ := ce.r
          rw [g1, cw.o]
          split at hs
          · rename_i hin
            injection hs with hs
            subst hs
            simp only [hin, if_true]
            exact ⟨_, rfl, rfl, rfl, hr.set hb.1 (Or.inr (Or.inr (Or.inr (Or.inl ⟨_, _, _, _, rfl, rfl, up_e g2⟩))))⟩
          · cases hs
        · cases hs
      · cases hs
    · cases hs
  · -- alen
    split at hs
    · rename_i q st
      rw [← e1]
      split at hs
      · rename_i hb
        rw [if_pos hb]
        have ce := e6 q hb
        split at hs
        · rename_i n f hc
          rw [hc] at ce
          obtain ⟨g, g1, g2⟩ := ce.i (by decide)
          rw [g1]
          injection hs with hs
          subst hs
          exact ⟨_, rfl, rfl, rfl, hr⟩
        · cases hs
      · cases hs
    · cases hs
theorem CE.self {x : MCell} : CE x x := by
  rcases x with ⟨k, n, f | f | f⟩ | p
  · exact Or.inr (Or.inl ⟨_, _, _, _, rfl, rfl, fun _ _ => rfl⟩)
  · exact Or.inr (Or.inr (Or.inl ⟨_, _, _, _, rfl, rfl, fun _ _ => rfl⟩))
  · exact Or.inr (Or.inr (Or.inr (Or.inl ⟨_, _, _, _, rfl, rfl, fun _ _ => rfl⟩)))
  · exact Or.inr (Or.inr (Or.inr (Or.inr ⟨_, rfl, rfl⟩)))
theorem T1o {o a b c : Nat} {v : Int32} {ls st : List Value} {h h2 : MHp} {c0 : MCell} {x : MAct} (hr : HE c0 h h2) (ho : 34 ≤ o ∧ o ≤ 39) (hs : m_obj k_dfl (o, a, b, c, v) ls st h = some x) : ∃ y, m_obj k_dfl (o, a, b, c, v) ls st h2 = some y ∧ AR c0 x y := by
  have hr' := hr
  obtain ⟨e1, e2, e3, e4, e5, e6⟩ := hr'
  have hh : o = 34 ∨ o = 35 ∨ o = 36 ∨ o = 37 ∨ o = 38 ∨ o = 39 := by omega
  rcases hh with rfl | rfl | rfl | rfl | rfl | rfl
  all_goals simp only [m_obj] at hs ⊢
  · split at hs
    · rename_i q st
      rw [← e1]
      split at hs
      · rename_i hb
        rw [if_pos hb]
        have ce := e6 q (Or.inl hb)
        split at hs
        · rename_i k fs hc
          rw [hc] at ce
          rw [ce.o]
          split at hs
          · rename_i hk
            split at hs
            · rename_i w hw
              injection hs with hs
              subst hs
              simp only [hk, if_true, hw]
              exact ⟨_, rfl, rfl, rfl, hr⟩
            · cases hs
          · cases hs
        · cases hs
      · cases hs
    · cases hs
  · split at hs
    · rename_i w q st
      rw [← e1]
      split at hs
      · rename_i hb
        rw [if_pos hb]
        have ce := e6 q (Or.inl hb)
        split at hs
        · rename_i k fs hc
          rw [hc] at ce
          rw [ce.o]
          split at hs
          · rename_i hk
            split at hs
            · split at hs
              · rename_i hx
                injection hs with hs
                subst hs
                simp only [hk, and_self, if_true, hx]
                exact ⟨_, rfl, rfl, rfl, hr.set hb CE.self⟩
              · cases hs
            · split at hs
              · rename_i hx
                injection hs with hs
                subst hs
                simp only [hk, and_self, if_true, hx]
                exact ⟨_, rfl, rfl, rfl, hr.set hb CE.self⟩
              · cases hs
            · cases hs
          · cases hs
        · cases hs
      · cases hs
    · cases hs
  · split at hs
    · rename_i hb
      injection hs with hs
      subst hs
      rw [← e1, ← e3, if_pos hb]
      exact ⟨_, rfl, rfl, rfl, hr.push hb.2 CE.self⟩
    · cases hs
  · split at hs
    · rename_i n st
      rw [← e1, ← e3]
      split at hs
      · rename_i hb
        rw [if_pos hb]
        split at hs
        · injection hs with hs
          subst hs
          exact ⟨_, rfl, rfl, rfl, hr.push hb.2.1 CE.self⟩
        · injection hs with hs
          subst hs
          exact ⟨_, rfl, rfl, rfl, hr.push hb.2.1 CE.self⟩
        · injection hs with hs
          subst hs
          exact ⟨_, rfl, rfl, rfl, hr.push hb.2.1 CE.self⟩
        · cases hs
      · cases hs
    · cases hs
  · split at hs
    · rename_i n st
      rw [← e1, ← e3]
      split at hs
      · rename_i hb
        rw [if_pos hb]
        injection hs with hs
        subst hs
        exact ⟨_, rfl, rfl, rfl, hr.push hb.2.1 CE.self⟩
      · cases hs
    · cases hs
  · split at hs
    · rename_i k n st
      rw [← e1, ← e2, ← e3]
      split at hs
      · rename_i hb
        rw [if_pos hb]
        injection hs with hs
        subst hs
        refine ⟨_, rfl, rfl, rfl, rfl, rfl, rfl, by simp only; omega, ?_, ?_⟩
        · simp only
          rw [if_neg (by unfold mS; omega), if_neg (by unfold mS; omega)]
          exact e5
        · intro q hq
          simp only at hq ⊢
          by_cases c1 : q = h.1
          · rw [if_pos c1, if_pos c1]; exact CE.self
          · rw [if_neg c1, if_neg c1]
            by_cases c2 : h.1 < q ∧ q < h.1 + 1 + n.toNatClampNeg
            · rw [if_pos c2, if_pos c2]; exact CE.self
            · rw [if_neg c2, if_neg c2]; exact e6 q (by omega)
      · cases hs
    · cases hs
theorem cpy_e {f g f' g' : Nat → Int32} {n0 n1 sp dp n : Nat} (h : ∀ i, i < n0 → f i = f' i) (h' : ∀ i, i < n1 → g i = g' i) (hs : sp + n ≤ n0) : ∀ i, i < n1 → va_cpy f g sp dp n i = va_cpy f' g' sp dp n i := by
  intro i hi
  unfold va_cpy
  split
  · exact h _ (by omega)
  · exact h' i hi
theorem T1l {o a b c : Nat} {v : Int32} {ls st : List Value} {h h2 : MHp} {c0 : MCell} {x : MAct} (hr : HE c0 h h2) (ho : 44 ≤ o ∧ o ≤ 49) (hs : m_lib P_txt (o, a, b, c, v) ls st h = some x) : ∃ y, m_lib P_txt (o, a, b, c, v) ls st h2 = some y ∧ AR c0 x y := by
  have hr' := hr
  obtain ⟨e1, e2, e3, e4, e5, e6⟩ := hr'
  have hh : o = 44 ∨ o = 45 ∨ o = 46 ∨ o = 47 ∨ o = 48 ∨ o = 49 := by omega
  rcases hh with rfl | rfl | rfl | rfl | rfl | rfl
  all_goals simp only [m_lib] at hs ⊢
  · split at hs
    · split at hs
      · rename_i hb
        injection hs with hs
        subst hs
        rw [if_pos hb]
        exact ⟨_, rfl, rfl, rfl, hr⟩
      · cases hs
    · cases hs
  · split at hs
    · split at hs
      · rename_i hb
        injection hs with hs
        subst hs
        rw [if_pos hb]
        exact ⟨_, rfl, rfl, rfl, hr⟩
      · cases hs
    · cases hs
  · split at hs
    · rename_i n dp q2 sp q1 st
      rw [← e1]
      split at hs
      · rename_i hb
        rw [if_pos hb]
        have ca := e6 q1 (Or.inl hb.2.1)
        have cb := e6 q2 (Or.inl hb.2.2)
        split at hs
        · rename_i n0 f n1 g hc hd
          rw [hc] at ca
          rw [hd] at cb
          obtain ⟨f', f1, f2⟩ := ca.i (by decide)
          obtain ⟨g', g1, g2⟩ := cb.i (by decide)
          rw [f1, g1]
          split at hs
          · rename_i hx
            injection hs with hs
            subst hs
            simp only [hx, not_false_eq_true, and_self, if_true]
            exact ⟨_, rfl, rfl, rfl, hr.set hb.2.2 (Or.inr (Or.inl ⟨_, _, _, _, rfl, rfl, cpy_e f2 g2 hx.2.2.2.1⟩))⟩
          · cases hs
        · cases hs
      · cases hs
    · cases hs
  · split at hs
    · split at hs
      · rename_i hb
        injection hs with hs
        subst hs
        rw [if_pos hb]
        exact ⟨_, rfl, rfl, rfl, hr⟩
      · cases hs
    · cases hs
  · split at hs
    · split at hs
      · rename_i hb
        injection hs with hs
        subst hs
        rw [if_pos hb]
        exact ⟨_, rfl, rfl, rfl, hr⟩
      · cases hs
    · cases hs
  · split at hs
    · rename_i hb
      injection hs with hs
      subst hs
      rw [if_pos hb]
      exact ⟨_, rfl, rfl, rfl, hr⟩
    · cases hs
theorem T1c {o a b c : Nat} {v : Int32} {st : List Value} {h h2 : MHp} {c0 : MCell} {x : MAct} (hr : HE c0 h h2) (ho : 40 ≤ o ∧ o ≤ 43) (hs : m_call P_mcl (o, a, b, c, v) st h = some x) : ∃ y, m_call P_mcl (o, a, b, c, v) st h2 = some y ∧ AR c0 x y := by
  have hr' := hr
  obtain ⟨e1, e2, e3, e4, e5, e6⟩ := hr'
  have hh : o = 40 ∨ o = 41 ∨ o = 42 ∨ o = 43 := by omega
  rcases hh with rfl | rfl | rfl | rfl
  all_goals simp only [m_call] at hs ⊢
  · split at hs
    · rename_i q rest hq
      rw [← e1]
      split at hs
      · rename_i hb
        rw [if_pos hb]
        have ce := e6 q (Or.inl hb.2)
        split at hs
        · rename_i k fs hc
          rw [hc] at ce
          rw [ce.o]
          split at hs
          · rename_i hk
            injection hs with hs
            subst hs
            simp only [hk, if_true]
            exact ⟨_, rfl, rfl⟩
          · cases hs
        · cases hs
      · cases hs
    · cases hs
  · split at hs
    · rename_i hb
      injection hs with hs
      subst hs
      rw [if_pos hb]
      exact ⟨_, rfl, rfl⟩
    · cases hs
  · split at hs
    · rename_i q rest hq
      rw [← e1]
      split at hs
      · rename_i hb
        injection hs with hs
        subst hs
        rw [if_pos hb]
        exact ⟨_, rfl, rfl⟩
      · cases hs
    · cases hs
  · split at hs
    · rename_i q rest hq
      rw [← e1]
      split at hs
      · rename_i hb
        injection hs with hs
        subst hs
        rw [if_pos hb]
        exact ⟨_, rfl, rfl⟩
      · cases hs
    · cases hs
theorem T1 {i : MI} {ls st : List Value} {h h2 : MHp} {c0 : MCell} {x : MAct} (hr : HE c0 h h2) (hs : m_step P_tsw P_txt P_mcl k_dfl i ls st h = some x) : ∃ y, m_step P_tsw P_txt P_mcl k_dfl i ls st h2 = some y ∧ AR c0 x y := by
  obtain ⟨o, a, b, c, v⟩ := i
  by_cases c1 : o < 25 ∨ (50 ≤ o ∧ o ≤ 53)
  · exact T1n hr c1 hs
  · have hm : ∀ h : MHp, m_step P_tsw P_txt P_mcl k_dfl (o, a, b, c, v) ls st h = if o < 34 then m_arr (o, a, b, c, v) ls st h else if o < 40 then m_obj k_dfl (o, a, b, c, v) ls st h else if o < 44 then m_call P_mcl (o, a, b, c, v) st h else m_lib P_txt (o, a, b, c, v) ls st h := by
      intro h
      unfold m_step
      split
      all_goals (try (rename_i he; simp only [Prod.mk.injEq] at he; omega))
      all_goals (try (exfalso; omega))
      rename_i he
      simp only [Prod.mk.injEq] at he
      obtain ⟨rfl, -⟩ := he
      rfl
    rw [hm] at hs ⊢
    by_cases c2 : o < 34
    · rw [if_pos c2] at hs ⊢
      exact T1a hr (by omega) hs
    · rw [if_neg c2] at hs ⊢
      by_cases c3 : o < 40
      · rw [if_pos c3] at hs ⊢
        exact T1o hr (by omega) hs
      · rw [if_neg c3] at hs ⊢
        by_cases c4 : o < 44
        · rw [if_pos c4] at hs ⊢
          exact T1c hr (by omega) hs
        · rw [if_neg c4] at hs ⊢
          by_cases c5 : o ≤ 49
          · exact T1l hr (by omega) hs
          · exfalso
            unfold m_lib at hs
            split at hs
            all_goals (try (rename_i he; simp only [Prod.mk.injEq] at he; omega))
            all_goals (try omega)
            cases hs
theorem T2 {c0 : MCell} : ∀ (n : Nat) {k : Nat} {is : List (Nat × MI)} {ls st : List Value} {h h2 : MHp} {r : MOut} {h' : MHp}, HE c0 h h2 → P_mx n k is ls st h = some (r, h') → ∃ h2', P_mx n k is ls st h2 = some (r, h2') ∧ HE c0 h' h2' := by
  intro n
  induction n with
  | zero => intro k is ls st h h2 r h' _ hs; cases hs
  | succ n ih =>
    intro k is ls st h h2 r h' hr hs
    cases is with
    | nil => cases hs
    | cons e is =>
      obtain ⟨pc, i⟩ := e
      unfold P_mx mx at hs ⊢
      rcases hm : m_step P_tsw P_txt P_mcl k_dfl i ls st h with _ | ⟨ls', st', h1⟩ | ⟨L, ls', st', h1⟩ | ⟨r1, h1⟩ | ⟨y, as, st'⟩
      · rw [hm] at hs; cases hs
      · obtain ⟨z, z1, z2⟩ := T1 hr hm
        rw [hm] at hs
        rw [z1]
        rcases z with ⟨a1, a2, a3⟩ | ⟨a0, a1, a2, a3⟩ | ⟨a1, a2⟩ | ⟨a1, a2, a3⟩
        · obtain ⟨rfl, rfl, z3⟩ := z2
          exact ih z3 hs
        · cases z2
        · cases z2
        · cases z2
      · obtain ⟨z, z1, z2⟩ := T1 hr hm
        rw [hm] at hs
        rw [z1]
        rcases z with ⟨a1, a2, a3⟩ | ⟨a0, a1, a2, a3⟩ | ⟨a1, a2⟩ | ⟨a1, a2, a3⟩
        · cases z2
        · obtain ⟨rfl, rfl, rfl, z3⟩ := z2
          exact ih z3 hs
        · cases z2
        · cases z2
      · obtain ⟨z, z1, z2⟩ := T1 hr hm
        rw [hm] at hs
        rw [z1]
        rcases z with ⟨a1, a2, a3⟩ | ⟨a0, a1, a2, a3⟩ | ⟨a1, a2⟩ | ⟨a1, a2, a3⟩
        · cases z2
        · cases z2
        · obtain ⟨rfl, z3⟩ := z2
          injection hs with hs
          injection hs with hs1 hs2
          subst hs1 hs2
          exact ⟨_, rfl, z3⟩
        · cases z2
      · obtain ⟨z, z1, z2⟩ := T1 hr hm
        rw [hm] at hs
        rw [z1]
        rcases z with ⟨a1, a2, a3⟩ | ⟨a0, a1, a2, a3⟩ | ⟨a1, a2⟩ | ⟨a1, a2, a3⟩
        · cases z2
        · cases z2
        · cases z2
        · have z3 : (y, as, st') = (a1, a2, a3) := z2
          injection z3 with z4 z5
          injection z5 with z5 z6
          subst z4 z5 z6
          simp only at hs ⊢
          split at hs
          · rename_i hl
            rw [if_pos hl]
            split at hs
            · cases hs
            · rename_i v h1 hc
              obtain ⟨h3, q1, q2⟩ := ih hr hc
              have q1' : mx P_tsw P_txt P_mcl k_dfl P_cd P_hnd P_mxl n y (P_cd y) (m_ent P_mxl y as) [] h2 = some (.inl v, h3) := q1
              rw [q1']
              exact ih q2 hs
            · rename_i E h1 hc
              obtain ⟨h3, q1, q2⟩ := ih hr hc
              have q1' : mx P_tsw P_txt P_mcl k_dfl P_cd P_hnd P_mxl n y (P_cd y) (m_ent P_mxl y as) [] h2 = some (.inr E, h3) := q1
              rw [q1']
              simp only at hs ⊢
              split at hs
              · cases hs
              · rename_i hE
                injection hs with hs
                injection hs with hs1 hs2
                subst hs1 hs2
                exact ⟨_, rfl, q2⟩
              · rename_i w hE
                injection hs with hs
                injection hs with hs1 hs2
                subst hs1 hs2
                exact ⟨_, rfl, q2⟩
          · cases hs
