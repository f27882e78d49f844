/-- the fields of a new object -/
def k_dfl (ci : Nat) : List Value := match vwCl[ci]? with
  | some (_, T, N) => (List.range N).map (fun k => match parseFieldDescriptor (T k).2.2.1 with
    | some ty => defaultValue ty
    | none => .null)
  | none => []
theorem k_dfl_len {ci : Nat} {C : String} {T : u_T} {N : Nat} (h : vwCl[ci]? = some (C, T, N)) : (k_dfl ci).length = N := by
  unfold k_dfl
  rw [h]
  simp
theorem k_dfl_at {ci : Nat} {C : String} {T : u_T} {N : Nat} (h : vwCl[ci]? = some (C, T, N)) {ty : Nat → FieldType} (hty : ∀ k, k < N → parseFieldDescriptor (T k).2.2.1 = some (ty k)) {j : Nat} (hj : j < N) : (k_dfl ci)[j]? = some (defaultValue (ty j)) := by
  unfold k_dfl
  rw [h]
  simp [hj, hty j hj]
theorem k_dfl_v (σ : Nat → Nat) (ci : Nat) : (k_dfl ci).map (s_v σ) = k_dfl ci := by
  unfold k_dfl
  split
  · rw [List.map_map]
    apply List.map_congr_left
    intro k _
    simp only [Function.comp]
    split
    · rename_i ty _
      cases ty <;> rfl
    · rfl
  · rfl
theorem RA_inj {U : State} {c1 c2 : ClassId} {ty : FieldType} (h1 : va_RA U c1 ty) (h2 : U.vm.findClass ("[" ++ ty.toString) = some c2) : c2 = c1 := by
  cases ty with
  | object C =>
    obtain ⟨_, _, _, _, _, h⟩ := h1
    exact Option.some.inj (h2.symm.trans h)
  | _ => exact Option.some.inj (h2.symm.trans h1)
theorem k_arrs : (Cond.arrayClass .int ∈ GT ∧ Cond.arrayClass .long ∈ GT ∧ Cond.arrayClass .boolean ∈ GT) := by
  refine ⟨List.mem_filter.mpr ⟨?_, rfl⟩, List.mem_filter.mpr ⟨?_, rfl⟩, List.mem_filter.mpr ⟨?_, rfl⟩⟩ <;> decide +kernel
section Make2
variable {p : Program} {l : Launch} {e : Env} {R : Room} {s : State} {m : MethodId} {args : Array Value} {below : List Frame} {meth : Method} {c : Code} {H : Heap} {locs : List Loc} {cells slots : Nat} {Q : State → Prop}
variable {own : String} {b : ByteArray} {nL pc q : Nat} {LS : Array Slot} {ls st ls' st' : List Value} {h h' : MHp}
variable {tsw : Nat → List (Int × Nat) × Nat} {txt : Nat → List Int32} {mcl : Nat → Nat}
variable {dC : Nat → ClassId} {dI : Nat → Nat → Nat} {dA : Nat → ClassId} {B0 : Nat} {σ : Nat → Nat} {scr : Nat × (Nat → Int32)} {stT : List (String × Nat × String)} {c0 s0 : Nat}
theorem s_S_push (hS : s_S dC dI dA B0 σ scr c0 s0 s.heap h H locs cells slots) (x : MCell) (sl : Nat) (hlt : h.1 < 50000) {H1 : Heap}
    (h1 : va_P (dC, dI) vwCl (s_w dA B0 σ h ++ [(B0 + h.1, s_c dA σ x)]) H1) (h2 : va_S (s_A B0) s.heap H1 locs) : s_S dC dI dA B0 σ scr c0 s0 s.heap (m_push h x sl) H1 locs (cells + 1) (slots + sl) := by
  obtain ⟨hP, hS, hz, hle, hc, hsl, hscr⟩ := hS
  rw [s_w_push x sl] at h1
  refine ⟨h1, h2, hz, by show h.1 + 1 ≤ 51001; omega, by show cells + 1 + c0 = h.1 + 1 + h.2.2.1; omega, by show slots + sl + s0 = h.2.1 + sl + 6 * h.2.2.1; omega, ?_⟩
  have : mS ≠ h.1 := by unfold mS; omega
  show m_upd h.2.2.2 h.1 x mS = _
  unfold m_upd
  rw [if_neg this]
  exact hscr
theorem s_w_mna {h : MHp} {n k : Nat} (hσ : s_P B0 σ) (hlt : h.1 < 50000) (hn : n < 1000) :
    (s_w dA B0 σ h ++ [(B0 + h.1, .inl (dA 3, n, .inr (.inr (.inr (.inr (fun i => if i < n then some (B0 + h.1 + 1 + i) else none))))))]) ++ ((List.range n).map (fun i => B0 + h.1 + 1 + i)).map (fun a => (a, .inl (dA 0, k, .inl (fun _ => 0))))
      = s_w dA B0 σ (h.1 + 1 + n, h.2.1 + n + n * k, 0, fun a => if a = h.1 then .inl (3, n, .inr (.inr (fun i => if i < n then some (h.1 + 1 + i) else none))) else if h.1 < a ∧ a < h.1 + 1 + n then .inl (0, k, .inl (fun _ => 0)) else h.2.2.2 a) := by
  apply List.ext_getElem?
  intro j
  have e9 : (fun i => Option.map σ (if i < n then some (h.1 + 1 + i) else none)) = fun i => if i < n then some (B0 + h.1 + 1 + i) else none := by
    funext i
    split
    · rw [Option.map_some, hσ _ (by omega)]
      congr 1
      omega
    · rfl
  by_cases h1 : j < h.1
  · rw [List.getElem?_append_left (by simp [s_w_len]; omega), List.getElem?_append_left (by rw [s_w_len]; exact h1), s_w_get h1, s_w_get (by show j < h.1 + 1 + n; omega)]
    simp only [Nat.ne_of_lt h1, if_false, show ¬ (h.1 < j ∧ j < h.1 + 1 + n) by omega]
  · by_cases h2 : j = h.1
    · subst h2
      rw [List.getElem?_append_left (by simp [s_w_len]), List.getElem?_append_right (by rw [s_w_len]; omega), s_w_len, s_w_get (by show h.1 < h.1 + 1 + n; omega)]
      simp only [Nat.sub_self, List.getElem?_cons_zero, if_true, s_c, e9]
    · rw [List.getElem?_append_right (by simp [s_w_len]; omega)]
      simp only [List.length_append, s_w_len, List.length_cons, List.length_nil, List.map_map, List.getElem?_map]
      by_cases h3 : j < h.1 + 1 + n
      · rw [List.getElem?_range (by omega), s_w_get (by show j < h.1 + 1 + n; exact h3)]
        simp only [h2, if_false, show h.1 < j ∧ j < h.1 + 1 + n from ⟨by omega, h3⟩, if_true, s_c, Option.map_some, Function.comp, and_self]
        rw [show B0 + h.1 + 1 + (j - (h.1 + (0 + 1))) = B0 + j by omega]
      · rw [List.getElem?_eq_none (by rw [List.length_range]; omega), List.getElem?_eq_none (by rw [s_w_len]; show h.1 + 1 + n ≤ j; omega)]
        rfl
set_option maxHeartbeats 4000000 in
theorem s_make (hx : p.tables.exec = Jvm.exec) (hb : c.code = b) (hown : s.vm.findClass own = some m.cls) (hts : ∀ w ∈ GT, w.before args s = true) (hE : s_E dC dI dA B0 σ scr stT txt s) (hσ : s_P B0 σ)
    {i : MI} (hc : c_make own b pc i (some q) = true) (hS : s_S dC dI dA B0 σ scr c0 s0 s.heap h H locs cells slots)
    (hs : m_step tsw txt mcl k_dfl i ls st h = some (.inl (ls', st', h'))) (hR : h'.1 + h'.2.2.1 ≤ c0 + R.cells ∧ h'.2.1 + 6 * h'.2.2.1 ≤ s0 + R.slots)
    (kk : ∀ (H' : Heap) (cells' slots' : Nat), ls' = ls → s_S dC dI dA B0 σ scr c0 s0 s.heap h' H' locs cells' slots' → W p l e R s m args below meth c H' locs cells' slots' Q (F0 m q LS (st'.map (s_v σ)))) :
    W p l e R s m args below meth c H locs cells slots Q (F0 m pc LS (st.map (s_v σ))) := by
  refine W.sz (fun hsz => ?_)
  obtain ⟨o, a1, a2, a3, v⟩ := i
  have hK := hE.1
  obtain ⟨hP, hVS, -, -, hcc, hss, -⟩ := id hS
  unfold c_make at hc
  split at hc
  · rename_i ci idx pl heq
    cases heq
    split at hc
    · rename_i C T N hcl
      simp only [Bool.and_eq_true] at hc
      have hd := c_d_dec hc.2; have hq := c_d_nx hc.2; subst hq
      have e1 : m_step tsw txt mcl k_dfl (36, a1, a2, a3, v) ls st h = m_obj k_dfl (36, a1, a2, a3, v) ls st h := rfl
      rw [e1] at hs
      simp only [m_obj, m_n] at hs
      split at hs
      · rename_i h0
        simp only [Option.some.injEq, Sum.inl.injEq, Prod.mk.injEq] at hs
        obtain ⟨rfl, rfl, rfl⟩ := hs
        have hH := s_S_size hS hE.2.2.2.1 hsz h0.1
        obtain ⟨-, ⟨tyF, htyF⟩, -, ⟨hi1, hi2⟩, -⟩ := k_cls hcl
        have hlen := k_dfl_len hcl
        rw [hlen] at hR
        simp only [m_push] at hR
        refine n_new (ci := a1) (fs := k_dfl a1) hx hb hts (k_ws hcl) tyF htyF hown (hts _ (c_w_in hc.1)) (hts _ (List.mem_filter.mpr ⟨hi1, rfl⟩)) (hts _ (List.mem_filter.mpr ⟨hi2, rfl⟩)) hK hP hVS hcl (fun j hj => ?_) (by omega) (by omega) hd (fun H1 g1 g2 => ?_)
        · unfold vp_V
          rw [List.getD_eq_getElem?_getD, k_dfl_at hcl htyF hj]
          rfl
        · rw [hH] at g1 ⊢
          have g3 := s_S_push hS (.inr (a1, k_dfl a1)) (k_dfl a1).length h0.2 (by simp only [s_c, k_dfl_v]; exact g1) g2
          have g4 := kk H1 (cells + 1) (slots + (k_dfl a1).length) rfl g3
          rw [hlen] at g4
          simp only [List.map_cons, s_v, hσ _ (show h.1 < 60000 by omega)] at g4
          exact g4
      · cases hs
    · cases hc
  · rename_i tg heq
    cases heq
    have e1 : m_step tsw txt mcl k_dfl (37, a1, a2, a3, v) ls st h = m_obj k_dfl (37, a1, a2, a3, v) ls st h := rfl
    rw [e1] at hs
    simp only [m_obj, m_n] at hs
    split at hs
    · rename_i n st
      split at hs
      · rename_i h0
        obtain ⟨h0, h1, h2, h3⟩ := h0
        have hH := s_S_size hS hE.2.2.2.1 hsz h0
        split at hc
        · have hd := c_d_dec hc; have hq := c_d_nx hc; subst hq
          simp only [Option.some.injEq, Sum.inl.injEq, Prod.mk.injEq] at hs
          obtain ⟨rfl, rfl, rfl⟩ := hs
          simp only [m_push] at hR
          refine n_newa (a0 := (n.toNatClampNeg, .inl (fun _ => 0))) (atype := .int) hx hb (hts _ k_arrs.1) rfl hP hVS (fun cA => rfl) h2 rfl (by show n.toNatClampNeg * 4 ≤ 536870912; omega) (by omega) (by omega) hd (fun cA H1 g0 g1 g2 => ?_)
          have := RA_inj (hK.2 0 _ rfl).2 g0
          subst this
          rw [hH] at g1 ⊢
          have g4 := kk H1 _ _ rfl (s_S_push hS (.inl (0, n.toNatClampNeg, .inl (fun _ => 0))) n.toNatClampNeg h1 g1 g2)
          simp only [List.map_cons, s_v, hσ _ (show h.1 < 60000 by omega)] at g4
          exact g4
        · have hd := c_d_dec hc; have hq := c_d_nx hc; subst hq
          simp only [Option.some.injEq, Sum.inl.injEq, Prod.mk.injEq] at hs
          obtain ⟨rfl, rfl, rfl⟩ := hs
          simp only [m_push] at hR
          refine n_newa (a0 := (n.toNatClampNeg, .inr (.inl (fun _ => 0)))) (atype := .long) hx hb (hts _ k_arrs.2.1) rfl hP hVS (fun cA => rfl) h2 rfl (by show n.toNatClampNeg * 8 ≤ 536870912; omega) (by omega) (by omega) hd (fun cA H1 g0 g1 g2 => ?_)
          have := RA_inj (hK.2 1 _ rfl).2 g0
          subst this
          rw [hH] at g1 ⊢
          have g4 := kk H1 _ _ rfl (s_S_push hS (.inl (1, n.toNatClampNeg, .inr (.inl (fun _ => 0)))) n.toNatClampNeg h1 g1 g2)
          simp only [List.map_cons, s_v, hσ _ (show h.1 < 60000 by omega)] at g4
          exact g4
        · have hd := c_d_dec hc; have hq := c_d_nx hc; subst hq
          simp only [Option.some.injEq, Sum.inl.injEq, Prod.mk.injEq] at hs
          obtain ⟨rfl, rfl, rfl⟩ := hs
          simp only [m_push] at hR
          refine n_newa (a0 := (n.toNatClampNeg, .inl (fun _ => 0))) (atype := .boolean) hx hb (hts _ k_arrs.2.2) rfl hP hVS (fun cA => rfl) h2 rfl (by show n.toNatClampNeg * 1 ≤ 536870912; omega) (by omega) (by omega) hd (fun cA H1 g0 g1 g2 => ?_)
          have := RA_inj (hK.2 2 _ rfl).2 g0
          subst this
          rw [hH] at g1 ⊢
          have g4 := kk H1 _ _ rfl (s_S_push hS (.inl (2, n.toNatClampNeg, .inl (fun _ => 0))) n.toNatClampNeg h1 g1 g2)
          simp only [List.map_cons, s_v, hσ _ (show h.1 < 60000 by omega)] at g4
          exact g4
        · cases hc
      · cases hs
    · cases hs
  · rename_i idx pl heq
    cases heq
    simp only [Bool.and_eq_true] at hc
    have hd := c_d_dec hc.2; have hq := c_d_nx hc.2; subst hq
    have e1 : m_step tsw txt mcl k_dfl (38, a1, a2, a3, v) ls st h = m_obj k_dfl (38, a1, a2, a3, v) ls st h := rfl
    rw [e1] at hs
    simp only [m_obj, m_n] at hs
    split at hs
    · rename_i n st
      split at hs
      · rename_i h0
        obtain ⟨h0, h1, h2, h3⟩ := h0
        have hH := s_S_size hS hE.2.2.2.1 hsz h0
        simp only [Option.some.injEq, Sum.inl.injEq, Prod.mk.injEq] at hs
        obtain ⟨rfl, rfl, rfl⟩ := hs
        simp only [m_push] at hR
        refine n_newq hx hb hown (hts _ (c_w_in hc.1)) hE.2.2.2.2.1 hP hVS h2 rfl (by omega) (by omega) (by omega) hd (fun cA H1 g0 g1 g2 => ?_)
        have := RA_inj (hK.2 4 _ rfl).2 g0
        subst this
        rw [hH] at g1 ⊢
        have g4 := kk H1 _ _ rfl (s_S_push hS (.inl (4, n.toNatClampNeg, .inr (.inr (fun _ => none)))) n.toNatClampNeg h1 g1 g2)
        simp only [List.map_cons, s_v, hσ _ (show h.1 < 60000 by omega)] at g4
        exact g4
      · cases hs
    · cases hs
  · rename_i idx pl heq
    cases heq
    simp only [Bool.and_eq_true] at hc
    have hd := c_d_dec hc.2; have hq := c_d_nx hc.2; subst hq
    have e1 : m_step tsw txt mcl k_dfl (39, a1, a2, a3, v) ls st h = m_obj k_dfl (39, a1, a2, a3, v) ls st h := rfl
    rw [e1] at hs
    simp only [m_obj, m_n] at hs
    split at hs
    · rename_i k n st
      split at hs
      · rename_i h0
        obtain ⟨h0, h1, h2, h3, h4, h5⟩ := h0
        have hH := s_S_size hS hE.2.2.2.1 hsz h0
        simp only [Option.some.injEq, Sum.inl.injEq, Prod.mk.injEq] at hs
        obtain ⟨rfl, rfl, rfl⟩ := hs
        simp only at hR
        have hcl9 : (Cond.classLink own a2 ("[" ++ (FieldType.array .int).toString)).before args s = true := hts _ (c_w_in hc.1)
        refine n_mna (ty := .int) (cy := dA 0) (z := (k.toNatClampNeg, .inl (fun _ => 0))) hx hb hown hcl9 hE.2.2.2.2.2.1 (hts _ k_arrs.1) (hK.2 0 _ rfl).2 hP hVS h2 h4 (by omega) (by rw [show componentBytes .int = 4 from rfl]; omega) (by omega) rfl rfl (by omega) (by omega) (fun c => by rw [vp_cell_i]; exact arrV_new _ _ _) hd (fun cA H1 g0 g1 g2 => ?_)
        have := RA_inj (hK.2 3 _ rfl).2 g0
        subst this
        rw [hH] at g1 ⊢
        rw [s_w_mna hσ h1 h3] at g1
        have g4 := kk H1 (cells + 1 + n.toNatClampNeg) (slots + n.toNatClampNeg + n.toNatClampNeg * k.toNatClampNeg) rfl ⟨g1, g2, fun _ => hS.2.2.1 h0, by show h.1 + 1 + n.toNatClampNeg ≤ 51001; omega, by show cells + 1 + n.toNatClampNeg + c0 = h.1 + 1 + n.toNatClampNeg + 0; omega, by show slots + n.toNatClampNeg + n.toNatClampNeg * k.toNatClampNeg + s0 = h.2.1 + n.toNatClampNeg + n.toNatClampNeg * k.toNatClampNeg + 6 * 0; omega, ?_⟩
        · simp only [List.map_cons, s_v, hσ _ (show h.1 < 60000 by omega)] at g4
          exact g4
        · have hm : mS = 200000 := rfl
          simp only [hm, show ¬ 200000 = h.1 by omega, if_false, show ¬ (h.1 < 200000 ∧ 200000 < h.1 + 1 + n.toNatClampNeg) by omega]
          exact hS.2.2.2.2.2.2
      · cases hs
    · cases hs
  · cases hc
end Make2
