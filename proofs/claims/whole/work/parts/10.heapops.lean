theorem k_lay_good (C : String) (T : u_T) (k : Nat) : goodWord (u_lay C T k) = true := by
  unfold u_lay
  split <;> rfl
theorem k_ws {ci : Nat} {C : String} {T : u_T} {N : Nat} (h : vwCl[ci]? = some (C, T, N)) : ∀ w ∈ u_ws C T N, w ∈ GT := by
  intro w hw
  refine List.mem_filter.mpr ⟨(k_cls h).1 w hw, ?_⟩
  obtain ⟨k, -, rfl⟩ := List.mem_map.mp hw
  exact k_lay_good C T k
section Ops2
variable {p : Program} {l : Launch} {e : Env} {R : Room} {s : State} {m : MethodId} {args : Array Value} {below : List Frame} {meth : Method} {c : Code} {H : Heap} {locs : List Loc} {cells slots : Nat} {Q : State → Prop}
variable {own : String} {b : ByteArray} {nL pc q : Nat} {LS : Array Slot} {ls st ls' st' : List Value} {h h' : MHp}
variable {tsw : Nat → List (Int × Nat) × Nat} {txt : Nat → List Int32} {mcl : Nat → Nat} {dfl : Nat → List Value}
variable {dC : Nat → ClassId} {dI : Nat → Nat → Nat} {dA : Nat → ClassId} {B0 : Nat} {σ : Nat → Nat} {scr : Nat × (Nat → Int32)} {stT : List (String × Nat × String)} {c0 s0 : Nat}
theorem k_cnm {ci : Nat} {C : String} {T : u_T} {N : Nat} (h : vwCl[ci]? = some (C, T, N)) : C = cnm ci ∧ T = fT ci := by
  match ci, h with
  | 0, h => cases h; exact ⟨rfl, rfl⟩
  | 1, h => cases h; exact ⟨rfl, rfl⟩
  | 2, h => cases h; exact ⟨rfl, rfl⟩
  | 3, h => cases h; exact ⟨rfl, rfl⟩
  | 4, h => cases h; exact ⟨rfl, rfl⟩
  | 5, h => cases h; exact ⟨rfl, rfl⟩
  | 6, h => cases h; exact ⟨rfl, rfl⟩
  | 7, h => cases h; exact ⟨rfl, rfl⟩
  | 8, h => cases h; exact ⟨rfl, rfl⟩
  | 9, h => cases h; exact ⟨rfl, rfl⟩
  | 10, h => cases h; exact ⟨rfl, rfl⟩
  | 11, h => cases h; exact ⟨rfl, rfl⟩
  | n + 12, h => simp [vwCl] at h
theorem c_fld_spec {on pl ci f idx t : Nat} (hc : c_fld on pl ci f = some (idx, t)) : ∃ (C : String) (T : u_T) (N : Nat) (ty : FieldType), vwCl[ci]? = some (C, T, N) ∧ f < N ∧ Cond.fieldLink (cnm on) idx (T f).1 (T f).2.1 (T f).2.2.1 ∈ GT ∧ parseFieldDescriptor (T f).2.2.1 = some ty ∧
    ((t = 0 → (T f).2.2.2 = false ∧ ty = .int) ∧ (t = 1 → (T f).2.2.2 = true ∧ c_isR ty = true) ∧ (t = 2 → (T f).2.2.2 = false ∧ c_isR ty = true) ∧ (t = 3 → (T f).2.2.2 = false ∧ ty = .boolean)) := by
  unfold c_fld at hc
  split at hc
  · rename_i o' idx' c' g' t' e1
    split at hc
    · rename_i h1
      obtain ⟨rfl, rfl, rfl⟩ := h1
      cases hc
      have hm := List.mem_of_getElem? e1
      have h2 := List.all_eq_true.mp FLT_ty _ hm
      have h3 := FLT_in _ hm
      unfold c_ty at h2
      split at h2
      · rename_i C T N e2
        obtain ⟨-, hT⟩ := k_cnm e2
        simp only [Bool.and_eq_true, decide_eq_true_eq] at h2
        obtain ⟨h4, h5⟩ := h2
        split at h5
        · rename_i ty e3
          refine ⟨C, T, N, ty, e2, h4, List.mem_filter.mpr ⟨by rw [hT]; exact h3, rfl⟩, e3, ?_⟩
          refine ⟨fun e => ?_, fun e => ?_, fun e => ?_, fun e => ?_⟩ <;> (subst e; simpa only [Bool.and_eq_true, Bool.not_eq_true', decide_eq_true_eq] using h5)
        · cases h5
      · cases h2
    · cases hc
  · cases hc
/-- a cell is changed -/
theorem s_S_put (hS : s_S dC dI dA B0 σ scr c0 s0 s.heap h H locs cells slots) {a : Nat} (x : MCell) (ha : a < h.1) {H1 : Heap} {locs1 : List Loc}
    (h1 : va_P (dC, dI) vwCl ((s_w dA B0 σ h).set a (B0 + a, s_c dA σ x)) H1) (h2 : va_S (s_A B0) s.heap H1 locs1) : s_S dC dI dA B0 σ scr c0 s0 s.heap (m_set h a x) H1 locs1 cells slots := by
  obtain ⟨hP, hS, hz, hle, hc, hsl, hscr⟩ := hS
  rw [s_w_set x ha] at h1
  refine ⟨h1, h2, hz, hle, hc, hsl, ?_⟩
  have : mS ≠ a := by unfold mS; omega
  show m_upd h.2.2.2 a x mS = _
  unfold m_upd
  rw [if_neg this]
  exact hscr
theorem W.sz {g : JFrame} (k : H.size ≤ s.heap.size + cells → W p l e R s m args below meth c H locs cells slots Q g) : W p l e R s m args below meth c H locs cells slots Q g := fun T hT X => k (by rw [← hT]; exact X.heapSize) T hT X
theorem s_S_size (hS : s_S dC dI dA B0 σ scr c0 s0 s.heap h H locs cells slots) (hE : B0 ≤ s.heap.size) (hz : H.size ≤ s.heap.size + cells) (ht : h.2.2.1 = 0) : H.size = B0 + h.1 := by
  obtain ⟨hP, hS, hz0, hle, hc, hsl, hscr⟩ := hS
  have h1 := hz0 ht
  have h2 := hS.1
  by_cases h0 : h.1 = 0
  · omega
  · have h3 := (hP (h.1 - 1) _ (s_w_get (by omega))).lt
    simp only at h3
    omega
def s_P (B0 : Nat) (σ : Nat → Nat) : Prop := ∀ a, a < 60000 → σ a = B0 + a
set_option maxHeartbeats 4000000 in
theorem s_heap (hx : p.tables.exec = Jvm.exec) (hb : c.code = b) {on : Nat} (hown : s.vm.findClass (cnm on) = some m.cls) (hts : ∀ w ∈ GT, w.before args s = true) (hE : s_E dC dI dA B0 σ scr stT txt s) (hσ : s_P B0 σ) {ini : Bool} (hin : ini = true → meth.name = "<init>")
    {i : MI} (hc : c_heap on ini b pc i (some q) = true) (hl : s_l σ ls LS nL) (hS : s_S dC dI dA B0 σ scr c0 s0 s.heap h H locs cells slots)
    (hs : m_step tsw txt mcl dfl i ls st h = some (.inl (ls', st', h')))
    (kk : ∀ (H' : Heap) (locs' : List Loc), ls' = ls → s_S dC dI dA B0 σ scr c0 s0 s.heap h' H' locs' cells slots → W p l e R s m args below meth c H' locs' cells slots Q (F0 m q LS (st'.map (s_v σ)))) :
    W p l e R s m args below meth c H locs cells slots Q (F0 m pc LS (st.map (s_v σ))) := by
  obtain ⟨o, a1, a2, a3, v⟩ := i
  have hK := hE.1
  have hP := hS.1
  have hle := hS.2.2.2.1
  have hσa : ∀ a, a < h.1 → σ a = B0 + a := fun a ha => hσ a (by omega)
  unfold c_heap at hc
  split at hc
  · rename_i heq
    cases heq
    have e1 : m_step tsw txt mcl dfl (25, a1, a2, a3, v) ls st h = m_arr (25, a1, a2, a3, v) ls st h := rfl
    rw [e1] at hs
    simp only [m_arr, m_n] at hs
    split at hs
    · rename_i i a st
      split at hs
      · rename_i x hx9
        simp only [Option.some.injEq, Sum.inl.injEq, Prod.mk.injEq] at hs
        obtain ⟨rfl, rfl, rfl⟩ := hs
        have hd := c_d_dec hc; have hq := c_d_nx hc; subst hq
        unfold m_ld at hx9
        split at hx9
        · rename_i ha
          split at hx9
          · rename_i n f hcell
            split at hx9
            · rename_i hin9
              cases hx9
              rw [m_in_iff] at hin9
              by_cases ha2 : a < h.1
              · have hw := s_w_get (dA := dA) (B0 := B0) (σ := σ) ha2
                rw [hcell] at hw
                have := va_iald (a := B0 + a) (ls := LS) (rest := st.map (s_v σ)) hx hb hK hP a 0 hw rfl hin9 hd (kk H locs rfl hS)
                simp only [List.map_cons, s_v, hσa a ha2]
                exact this
              · have ha3 : a = mS := ha.resolve_left ha2
                subst ha3
                rw [hS.2.2.2.2.2.2] at hcell
                cases hcell
                exact va_sld hx hb hE.2.1 (Nat.lt_of_lt_of_le hE.2.2.1 hE.2.2.2.1) (Nat.not_le.mpr hE.2.2.1) hS.2.1 hin9 hd (kk H locs rfl hS)
            · cases hx9
          · cases hx9
        · cases hx9
      · cases hs
    · cases hs
  · rename_i heq
    cases heq
    have e1 : m_step tsw txt mcl dfl (26, a1, a2, a3, v) ls st h = m_arr (26, a1, a2, a3, v) ls st h := rfl
    rw [e1] at hs
    simp only [m_arr, m_n] at hs
    split at hs
    · rename_i x i a st
      split at hs
      · rename_i ha
        split at hs
        · rename_i n f hcell
          split at hs
          · rename_i hin9
            simp only [Option.some.injEq, Sum.inl.injEq, Prod.mk.injEq] at hs
            obtain ⟨rfl, rfl, rfl⟩ := hs
            have hd := c_d_dec hc; have hq := c_d_nx hc; subst hq
            rw [m_in_iff] at hin9
            have hw := s_w_get (dA := dA) (B0 := B0) (σ := σ) ha
            rw [hcell] at hw
            simp only [List.map_cons, s_v, hσa a ha]
            exact va_iast (a := B0 + a) hx hb hK hP s_w_D hS.2.1 a 0 hw rfl hin9 hd (fun H1 locs1 g1 _ g2 => kk H1 locs1 rfl (s_S_put hS _ ha g1 g2))
          · cases hs
        · cases hs
      · cases hs
    · cases hs
  · rename_i heq
    cases heq
    have e1 : m_step tsw txt mcl dfl (27, a1, a2, a3, v) ls st h = m_arr (27, a1, a2, a3, v) ls st h := rfl
    rw [e1] at hs
    simp only [m_arr, m_n] at hs
    split at hs
    · rename_i i a st
      split at hs
      · rename_i ha
        split at hs
        · rename_i n f hcell
          split at hs
          · rename_i hin9
            simp only [Option.some.injEq, Sum.inl.injEq, Prod.mk.injEq] at hs
            obtain ⟨rfl, rfl, rfl⟩ := hs
            have hd := c_d_dec hc; have hq := c_d_nx hc; subst hq
            rw [m_in_iff] at hin9
            have hw := s_w_get (dA := dA) (B0 := B0) (σ := σ) ha
            rw [hcell] at hw
            simp only [List.map_cons, s_v, hσa a ha]
            exact va_zald (a := B0 + a) hx hb hK hP a 2 hw rfl hin9 hd (kk H locs rfl hS)
          · cases hs
        · cases hs
      · cases hs
    · cases hs
  · rename_i heq
    cases heq
    have e1 : m_step tsw txt mcl dfl (28, a1, a2, a3, v) ls st h = m_arr (28, a1, a2, a3, v) ls st h := rfl
    rw [e1] at hs
    simp only [m_arr, m_n] at hs
    split at hs
    · rename_i x i a st
      split at hs
      · rename_i ha
        split at hs
        · rename_i n f hcell
          split at hs
          · rename_i hin9
            simp only [Bool.and_eq_true, Bool.or_eq_true, decide_eq_true_eq] at hin9
            obtain ⟨hin9, hb9⟩ := hin9
            simp only [Option.some.injEq, Sum.inl.injEq, Prod.mk.injEq] at hs
            obtain ⟨rfl, rfl, rfl⟩ := hs
            have hd := c_d_dec hc; have hq := c_d_nx hc; subst hq
            rw [m_in_iff] at hin9
            have hw := s_w_get (dA := dA) (B0 := B0) (σ := σ) ha
            rw [hcell] at hw
            simp only [List.map_cons, s_v, hσa a ha]
            refine va_zast (a := B0 + a) hx hb hK hP s_w_D hS.2.1 a 2 hw rfl hin9 hd (fun H1 locs1 g1 _ g2 => ?_)
            have hz : vp_nar .boolean x = x := by rcases hb9 with rfl | rfl <;> decide
            rw [hz] at g1
            exact kk H1 locs1 rfl (s_S_put hS (.inl (2, n, .inl (upd f i.toNatClampNeg x))) ha g1 g2)
          · cases hs
        · cases hs
      · cases hs
    · cases hs
  · rename_i heq
    cases heq
    have e1 : m_step tsw txt mcl dfl (29, a1, a2, a3, v) ls st h = m_arr (29, a1, a2, a3, v) ls st h := rfl
    rw [e1] at hs
    simp only [m_arr, m_n] at hs
    split at hs
    · rename_i i a st
      split at hs
      · rename_i ha
        split at hs
        · rename_i n f hcell
          split at hs
          · rename_i hin9
            simp only [Option.some.injEq, Sum.inl.injEq, Prod.mk.injEq] at hs
            obtain ⟨rfl, rfl, rfl⟩ := hs
            have hd := c_d_dec hc; have hq := c_d_nx hc; subst hq
            rw [m_in_iff] at hin9
            have hw := s_w_get (dA := dA) (B0 := B0) (σ := σ) ha
            rw [hcell] at hw
            simp only [List.map_cons, s_v, hσa a ha]
            exact va_lald (a := B0 + a) hx hb hK hP a 1 hw rfl hin9 hd (kk H locs rfl hS)
          · cases hs
        · cases hs
      · cases hs
    · cases hs
  · rename_i heq
    cases heq
    have e1 : m_step tsw txt mcl dfl (30, a1, a2, a3, v) ls st h = m_arr (30, a1, a2, a3, v) ls st h := rfl
    rw [e1] at hs
    simp only [m_arr, m_n] at hs
    split at hs
    · rename_i x i a st
      split at hs
      · rename_i ha
        split at hs
        · rename_i n f hcell
          split at hs
          · rename_i hin9
            simp only [Option.some.injEq, Sum.inl.injEq, Prod.mk.injEq] at hs
            obtain ⟨rfl, rfl, rfl⟩ := hs
            have hd := c_d_dec hc; have hq := c_d_nx hc; subst hq
            rw [m_in_iff] at hin9
            have hw := s_w_get (dA := dA) (B0 := B0) (σ := σ) ha
            rw [hcell] at hw
            simp only [List.map_cons, s_v, hσa a ha]
            exact va_last (a := B0 + a) hx hb hK hP s_w_D hS.2.1 a 1 hw rfl hin9 hd (fun H1 locs1 g1 _ g2 => kk H1 locs1 rfl (s_S_put hS _ ha g1 g2))
          · cases hs
        · cases hs
      · cases hs
    · cases hs
  · rename_i tg heq
    cases heq
    have e1 : m_step tsw txt mcl dfl (31, a1, a2, a3, v) ls st h = m_arr (31, a1, a2, a3, v) ls st h := rfl
    rw [e1] at hs
    simp only [m_arr, m_n] at hs
    split at hs
    · rename_i i a st
      split at hs
      · rename_i ha
        split at hs
        · rename_i t n f hcell
          split at hs
          · rename_i hin9
            obtain ⟨rfl, hin9⟩ := hin9
            split at hs
            · rename_i b9 hb9
              simp only [Option.some.injEq, Sum.inl.injEq, Prod.mk.injEq] at hs
              obtain ⟨rfl, rfl, rfl⟩ := hs
              simp only [Bool.and_eq_true, Bool.or_eq_true, decide_eq_true_eq] at hc
              have hd := c_d_dec hc.2; have hq := c_d_nx hc.2; subst hq
              rw [m_in_iff] at hin9
              have hw := s_w_get (dA := dA) (B0 := B0) (σ := σ) ha
              rw [hcell] at hw
              simp only [List.map_cons, s_v, hσa a ha]
              have hlt : i.toNatClampNeg < n := Nat.not_le.mp fun q => hin9 (Or.inr q)
              have kk2 : W p l e R s m args below meth c H locs cells slots Q (F0 m (pc + 1) LS (va_rf ((f i.toNatClampNeg).map σ) :: st.map (s_v σ))) := by
                rw [hb9]; exact kk H locs rfl hS
              rcases hc.1 with rfl | rfl
              · exact W.aald (v := va_rf ((f i.toNatClampNeg).map σ)) (ty := .array .int) hx hb (hP a _ hw) ((hK.2 3 _ rfl).1 n (fun j => va_rf ((f j).map σ))) rfl (fun q => by cases q) (by show ¬ (i < 0 ∨ (arrV _ _ _).slots.size ≤ _); rw [arrV_size]; exact hin9) (by show (arrV _ _ _).slots[_]? = _; rw [arrV_read _ _ hlt]) rfl rfl hd kk2
              · exact va_aldq (a := B0 + a) hx hb hK hP a 4 hw rfl hin9 hd kk2
            · cases hs
          · cases hs
        · cases hs
      · cases hs
    · cases hs
  · rename_i heq
    cases heq
    have e1 : m_step tsw txt mcl dfl (32, a1, a2, a3, v) ls st h = m_arr (32, a1, a2, a3, v) ls st h := rfl
    rw [e1] at hs
    simp only [m_arr, m_n] at hs
    split at hs
    · rename_i v i a st
      split at hs
      · rename_i ha
        obtain ⟨ha, hv⟩ := ha
        split at hs
        · rename_i n f fs hcell hcv
          split at hs
          · rename_i hin9
            simp only [Option.some.injEq, Sum.inl.injEq, Prod.mk.injEq] at hs
            obtain ⟨rfl, rfl, rfl⟩ := hs
            have hd := c_d_dec hc; have hq := c_d_nx hc; subst hq
            rw [m_in_iff] at hin9
            have hw := s_w_get (dA := dA) (B0 := B0) (σ := σ) ha
            have hw2 := s_w_get (dA := dA) (B0 := B0) (σ := σ) hv
            rw [hcell] at hw
            rw [hcv] at hw2
            simp only [List.map_cons, s_v, hσa a ha, hσa v hv]
            refine va_astq (a := B0 + a) (v := B0 + v) hx hb hK hP s_w_D hS.2.1 a 4 v 0 (r := (RX0, TX0, 13)) hw rfl hw2 rfl hin9 hd (fun H1 locs1 g1 _ g2 => ?_)
            refine kk H1 locs1 rfl (s_S_put hS (.inl (4, n, .inr (.inr (va_up f i.toNatClampNeg (some v))))) ha ?_ g2)
            have e9 : (fun j => (va_up f i.toNatClampNeg (some v) j).map σ) = va_up (fun j => (f j).map σ) i.toNatClampNeg (some (B0 + v)) := by
              funext j
              unfold va_up
              split
              · simp [hσa v hv]
              · rfl
            simp only [s_c, e9]
            exact g1
          · cases hs
        · cases hs
      · cases hs
    · cases hs
  · rename_i heq
    cases heq
    have e1 : m_step tsw txt mcl dfl (33, a1, a2, a3, v) ls st h = m_arr (33, a1, a2, a3, v) ls st h := rfl
    rw [e1] at hs
    simp only [m_arr, m_n] at hs
    split at hs
    · rename_i a st
      split at hs
      · rename_i ha
        split at hs
        · rename_i n f hcell
          simp only [Option.some.injEq, Sum.inl.injEq, Prod.mk.injEq] at hs
          obtain ⟨rfl, rfl, rfl⟩ := hs
          have hd := c_d_dec hc; have hq := c_d_nx hc; subst hq
          by_cases ha2 : a < h.1
          · have hw := s_w_get (dA := dA) (B0 := B0) (σ := σ) ha2
            rw [hcell] at hw
            simp only [List.map_cons, s_v, hσa a ha2]
            exact va_alen (a := B0 + a) hx hb hK hP a 0 hw rfl rfl hd (kk H locs rfl hS)
          · have ha3 : a = mS := ha.resolve_left ha2
            subst ha3
            rw [hS.2.2.2.2.2.2] at hcell
            cases hcell
            exact va_slen hx hb hE.2.1 (Nat.lt_of_lt_of_le hE.2.2.1 hE.2.2.2.1) (Nat.not_le.mpr hE.2.2.1) hS.2.1 hd (kk H locs rfl hS)
        · cases hs
      · cases hs
    · cases hs
  · rename_i f ci pl heq
    cases heq
    split at hc
    · rename_i idx t9 hfl
      have hd := c_d_dec hc; have hq := c_d_nx hc; subst hq
      have e1 : m_step tsw txt mcl dfl (34, a1, a2, a3, v) ls st h = m_obj dfl (34, a1, a2, a3, v) ls st h := rfl
      rw [e1] at hs
      simp only [m_obj, m_n] at hs
      obtain ⟨C, T, N, ty, hcl, hfN, hlk, -, -⟩ := c_fld_spec hfl
      split at hs
      · rename_i a st
        split at hs
        · rename_i ha
          split at hs
          · rename_i c9 fs hcell
            split at hs
            · rename_i hce
              subst hce
              split at hs
              · rename_i w hw9
                simp only [Option.some.injEq, Sum.inl.injEq, Prod.mk.injEq] at hs
                obtain ⟨rfl, rfl, rfl⟩ := hs
                have hw := s_w_get (dA := dA) (B0 := B0) (σ := σ) ha
                rw [hcell] at hw
                simp only [List.map_cons, s_v, hσa a ha]
                exact va_get (a := B0 + a) hx hb hts (k_ws hcl) hown hK hP a hw hcl a1 hfN (hts _ hlk) (fun _ h9 => h9) (v := s_v σ w) (by simp [hw9]) hd (kk H locs rfl hS)
              · cases hs
            · cases hs
          · cases hs
        · cases hs
      · cases hs
    · cases hc
  · rename_i f ci pl kd heq
    cases heq
    split at hc
    · rename_i idx t9 hfl
      simp only [Bool.and_eq_true] at hc
      obtain ⟨hc, hkd⟩ := hc
      have hd := c_d_dec hc; have hq := c_d_nx hc; subst hq
      have e1 : m_step tsw txt mcl dfl (35, a1, a2, a3, v) ls st h = m_obj dfl (35, a1, a2, a3, v) ls st h := rfl
      rw [e1] at hs
      simp only [m_obj, m_n] at hs
      obtain ⟨C, T, N, ty, hcl, hfN, hlk, hty, ht0, ht1, ht2, ht3⟩ := c_fld_spec hfl
      obtain ⟨-, ⟨tyF, htyF⟩, hnm, -, hdecl⟩ := k_cls hcl
      split at hs
      · rename_i w a st
        split at hs
        · rename_i ha
          split at hs
          · rename_i c9 fs hcell
            split at hs
            · rename_i hce
              obtain ⟨rfl, hfl9⟩ := hce
              have hw := s_w_get (dA := dA) (B0 := B0) (σ := σ) ha
              rw [hcell] at hw
              have hfl8 : a1 < (fs.map (s_v σ)).length := by rw [List.length_map]; exact hfl9
              split at hs
              · rename_i x
                split at hs
                · rename_i hk9
                  simp only [Option.some.injEq, Sum.inl.injEq, Prod.mk.injEq] at hs
                  obtain ⟨rfl, rfl, rfl⟩ := hs
                  simp only [List.map_cons, s_v, hσa a ha]
                  have hfit : (T a1).2.2.2 = false ∧ narrow ty (.int x) = .int x ∧ fits ty (.int x) = true := by
                    rcases hk9 with rfl | ⟨rfl, h01⟩
                    · simp only [if_true, decide_eq_true_eq] at hkd
                      obtain ⟨e1, rfl⟩ := ht0 hkd
                      exact ⟨e1, rfl, rfl⟩
                    · rw [if_neg (by decide), if_pos rfl] at hkd
                      simp only [decide_eq_true_eq] at hkd
                      obtain ⟨e1, rfl⟩ := ht3 hkd
                      refine ⟨e1, ?_, ?_⟩
                      · rcases h01 with rfl | rfl <;> decide
                      · rcases h01 with rfl | rfl <;> decide
                  refine va_put (a := B0 + a) hx hb hts (k_ws hcl) tyF htyF hnm hown hK hP s_w_D hS.2.1 a hw hcl a1 hfN (hts _ hlk) (fun _ h9 => h9) hfit.1 hty hfit.2.1 hfit.2.2 hfl8 hd (fun H1 locs1 g1 _ g2 => ?_)
                  refine kk H1 locs1 rfl (s_S_put hS (.inr (_, fs.set a1 (.int x))) ha ?_ g2)
                  simp only [s_c, List.map_set, s_v]
                  exact g1
                · cases hs
              · rename_i x
                split at hs
                · rename_i hk9
                  simp only [Option.some.injEq, Sum.inl.injEq, Prod.mk.injEq] at hs
                  obtain ⟨rfl, rfl, rfl⟩ := hs
                  simp only [List.map_cons, s_v, hσa a ha]
                  have hk0 : ¬ v = 0 := by rcases hk9 with rfl | rfl <;> decide
                  have hk3 : ¬ v = 3 := by rcases hk9 with rfl | rfl <;> decide
                  rw [if_neg hk0, if_neg hk3] at hkd
                  have hn9 : ∀ ty : FieldType, c_isR ty = true → narrow ty (.ref (σ x)) = .ref (σ x) ∧ fits ty (.ref (σ x)) = true := by
                    intro ty h9
                    cases ty <;> first | (cases h9; done) | exact ⟨rfl, rfl⟩
                  split at hkd
                  · simp only [Bool.and_eq_true, decide_eq_true_eq] at hkd
                    obtain ⟨⟨f0, f2⟩, f4⟩ := hkd
                    obtain ⟨f1, f3⟩ := ht1 f0
                    refine va_putF (a := B0 + a) hx hb hts (k_ws hcl) tyF htyF hnm hown hK hP s_w_D hS.2.1 a hw hcl a1 hfN (hts _ hlk) (fun _ h9 => h9) f1 (hin f2) ?_ hty (hn9 ty f3).1 (hn9 ty f3).2 hfl8 hd (fun H1 locs1 g1 _ g2 => ?_)
                    · subst f4
                      exact (hdecl a1 hfN).trans (k_cnm hcl).1
                    · refine kk H1 locs1 rfl (s_S_put hS (.inr (_, fs.set a1 (.ref x))) ha ?_ g2)
                      simp only [s_c, List.map_set, s_v]
                      exact g1
                  · simp only [decide_eq_true_eq] at hkd
                    have hkd := ht2 hkd
                    refine va_put (a := B0 + a) hx hb hts (k_ws hcl) tyF htyF hnm hown hK hP s_w_D hS.2.1 a hw hcl a1 hfN (hts _ hlk) (fun _ h9 => h9) hkd.1 hty (hn9 ty hkd.2).1 (hn9 ty hkd.2).2 hfl8 hd (fun H1 locs1 g1 _ g2 => ?_)
                    refine kk H1 locs1 rfl (s_S_put hS (.inr (_, fs.set a1 (.ref x))) ha ?_ g2)
                    simp only [s_c, List.map_set, s_v]
                    exact g1
                · cases hs
              · cases hs
            · cases hs
          · cases hs
        · cases hs
      · cases hs
    · cases hc
  · cases hc
end Ops2
