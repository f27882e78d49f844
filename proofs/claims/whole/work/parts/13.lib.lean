/-! THE LIBRARY'S MEMBERS THAT ARE ROWS OF THE KIT, SWITCHES, ENDS, THROWS -/
theorem k_lib : (Cond.instanceMethod objectInit ∈ GT ∧ Cond.code objectInit ⟨#[0xb1]⟩ 1 none ∈ GT) ∧ ((Cond.static Lib.Math.min.name ∈ GT ∧ Cond.code Lib.Math.min.name Lib.Math.min.code 2 (some .int) ∈ GT) ∧ (Cond.static Lib.Math.max.name ∈ GT ∧ Cond.code Lib.Math.max.name Lib.Math.max.code 2 (some .int) ∈ GT) ∧ Cond.initialized "java/lang/Math" ∈ GT) ∧ (Cond.native arraycopyName ∈ GT ∧ Cond.static arraycopyName ∈ GT ∧ Cond.initialized "java/lang/System" ∈ GT) := by
  refine ⟨⟨?_, ?_⟩, ⟨⟨?_, ?_⟩, ⟨?_, ?_⟩, ?_⟩, ?_, ?_, ?_⟩ <;> exact List.mem_filter.mpr ⟨by decide +kernel, rfl⟩
section Lib2
variable {p : Program} {l : Launch} {e : Env} {R : Room} {s : State} {m : MethodId} {args : Array Value} {below : List Frame} {meth : Method} {c : Code} {H : Heap} {locs : List Loc} {cells slots : Nat} {Q : State → Prop}
variable {own : String} {b : ByteArray} {nL pc q : Nat} {LS : Array Slot} {ls st ls' st' : List Value} {h h' : MHp}
variable {tsw : Nat → List (Int × Nat) × Nat} {txt : Nat → List Int32} {mcl : Nat → Nat} {dfl : Nat → List Value}
variable {dC : Nat → ClassId} {dI : Nat → Nat → Nat} {dA : Nat → ClassId} {B0 : Nat} {σ : Nat → Nat} {scr : Nat × (Nat → Int32)} {stT : List (String × Nat × String)} {c0 s0 : Nat}
theorem s_sum8 {st : List Value} (h : st.length ≤ 4) : ((st.map (s_v σ)).map fun v => v.category).sum ≤ 8 := by
  have := s_catle (σ := σ) st
  omega
set_option maxHeartbeats 4000000 in
theorem s_lib (hx : p.tables.exec = Jvm.exec) (hb : c.code = b) (hml : c.maxLocals = nL) (hown : s.vm.findClass own = some m.cls) (hts : ∀ w ∈ GT, w.before args s = true) (hE : s_E dC dI dA B0 σ scr stT txt s) (hσ : s_P B0 σ) (hRf : 1 ≤ R.frames) (hRl : 40 ≤ R.locals) (hRc : cells ≤ R.cells ∧ slots ≤ R.slots)
    {i : MI} (hc : c_lib own b stT pc i (some q) = true) (hl : s_l σ ls LS nL) (hS : s_S dC dI dA B0 σ scr c0 s0 s.heap h H locs cells slots)
    (hs : m_step tsw txt mcl dfl i ls st h = some (.inl (ls', st', h')))
    (kk : ∀ (H' : Heap) (locs' : List Loc), ls' = ls → s_S dC dI dA B0 σ scr c0 s0 s.heap h' H' locs' cells slots → W p l e R s m args below meth c H' locs' cells slots Q (F0 m q LS (st'.map (s_v σ)))) :
    W p l e R s m args below meth c H locs cells slots Q (F0 m pc LS (st.map (s_v σ))) := by
  obtain ⟨o, a1, a2, a3, v⟩ := i
  have hK := hE.1
  have hP := hS.1
  have hle := hS.2.2.2.1
  have hσa : ∀ a, a < h.1 → σ a = B0 + a := fun a ha => hσ a (by omega)
  have hsz : c.maxLocals = LS.size := hml.trans hl.1.symm
  unfold c_lib at hc
  split at hc
  · rename_i idx a2 pl heq
    cases heq
    simp only [Bool.and_eq_true] at hc
    have hd := c_d_dec hc.2; have hq := c_d_nx hc.2; subst hq
    have e1 : m_step tsw txt mcl dfl (44, a1, a2, a3, v) ls st h = m_lib txt (44, a1, a2, a3, v) ls st h := rfl
    rw [e1] at hs
    simp only [m_lib, m_n] at hs
    split at hs
    · rename_i a st
      split at hs
      · rename_i h4
        simp only [Option.some.injEq, Sum.inl.injEq, Prod.mk.injEq] at hs
        obtain ⟨rfl, rfl, rfl⟩ := hs
        have h8 := s_sum8 (σ := σ) h4
        exact W.objInit hx hb hown (hts _ (c_w_in hc.1)) (hts _ k_lib.1.1) (hts _ k_lib.1.2) rfl hsz.symm rfl hd hRf (by show 2 * 0 + _ + 12 ≤ _; omega) (kk H locs rfl hS)
      · cases hs
    · cases hs
  · rename_i o9 idx pl heq
    cases heq
    simp only [Bool.and_eq_true] at hc
    have hd := c_d_dec hc.2; have hq := c_d_nx hc.2; subst hq
    have e1 : m_step tsw txt mcl dfl (45, a1, a2, a3, v) ls st h = m_lib txt (45, a1, a2, a3, v) ls st h := rfl
    rw [e1] at hs
    simp only [m_lib, m_n] at hs
    split at hs
    · rename_i y x st
      split at hs
      · rename_i h4
        simp only [Option.some.injEq, Sum.inl.injEq, Prod.mk.injEq] at hs
        obtain ⟨rfl, rfl, rfl⟩ := hs
        have h8 := s_sum8 (σ := σ) h4
        have hw := hts _ (c_w_in hc.1)
        by_cases h0 : a1 = 0
        · rw [if_pos h0] at hw
          have g4 := kk H locs rfl hS
          simp only [List.map_cons, s_v, h0, if_true] at g4
          exact va_mmin hx hb hsz hown hw (hts _ k_lib.2.1.1.1) (hts _ k_lib.2.1.2.2) (hts _ k_lib.2.1.1.2) hRf (by omega) hRc.1 hRc.2 hd g4
        · rw [if_neg h0] at hw
          have g4 := kk H locs rfl hS
          simp only [List.map_cons, s_v, h0, if_false] at g4
          exact va_mmax hx hb hsz hown hw (hts _ k_lib.2.1.2.1.1) (hts _ k_lib.2.1.2.2) (hts _ k_lib.2.1.2.1.2) hRf (by omega) hRc.1 hRc.2 hd g4
      · cases hs
    · cases hs
  · rename_i idx a2 pl heq
    cases heq
    simp only [Bool.and_eq_true] at hc
    have hd := c_d_dec hc.2; have hq := c_d_nx hc.2; subst hq
    have e1 : m_step tsw txt mcl dfl (46, a1, a2, a3, v) ls st h = m_lib txt (46, a1, a2, a3, v) ls st h := rfl
    rw [e1] at hs
    simp only [m_lib, m_n] at hs
    split at hs
    · rename_i n dp b9 sp a9 st
      split at hs
      · rename_i h4
        obtain ⟨h4, ha, hb9⟩ := h4
        split at hs
        · rename_i n0 f n1 g e5 e6
          split at hs
          · rename_i hin
            obtain ⟨i1, i2, i3, i4, i5⟩ := hin
            simp only [Option.some.injEq, Sum.inl.injEq, Prod.mk.injEq] at hs
            obtain ⟨rfl, rfl, rfl⟩ := hs
            have h8 := s_sum8 (σ := σ) h4
            have hw := s_w_get (dA := dA) (B0 := B0) (σ := σ) ha
            have hw2 := s_w_get (dA := dA) (B0 := B0) (σ := σ) hb9
            rw [e5] at hw
            rw [e6] at hw2
            simp only [List.map_cons, s_v, hσa _ ha, hσa _ hb9]
            exact va_copyi (a := B0 + b9) (a0 := B0 + a9) (ty := .int) hx hb hsz hown (hts _ (c_w_in hc.1)) (hts _ k_lib.2.2.1) (hts _ k_lib.2.2.2.1) (hts _ k_lib.2.2.2.2) hK hP s_w_D hS.2.1 a9 b9 0 0 hw hw2 rfl rfl rfl i1 i2 i3 i4 i5 (fun _ _ => rfl) hRf
              (by have : nativeFrameWords "java/lang/System" "arraycopy" 5 = 7 := by decide
                  rw [this]; omega) hd (fun H1 locs1 g1 _ g2 => kk H1 locs1 rfl (s_S_put hS _ hb9 g1 g2))
          · cases hs
        · cases hs
      · cases hs
    · cases hs
  · rename_i j form idx heq
    cases heq
    have e1 : m_step tsw txt mcl dfl (49, a1, a2, a3, v) ls st h = m_lib txt (49, a1, a2, a3, v) ls st h := rfl
    rw [e1] at hs
    simp only [m_lib, m_n] at hs
    split at hs
    · simp only [Option.some.injEq, Sum.inl.injEq, Prod.mk.injEq] at hs
      obtain ⟨rfl, rfl, rfl⟩ := hs
      simp only [Bool.and_eq_true] at hc
      obtain ⟨hc1, hc2⟩ := hc
      split at hc1
      · rename_i q9 hq9
        simp only [Bool.and_eq_true, decide_eq_true_eq] at hc1
        obtain ⟨rfl, rfl⟩ := hc1
        have hr := (hE.2.2.2.2.2.2.1 a1 q9 hq9).1
        split at hc2
        · have hd := c_d_dec hc2; have hq := c_d_nx hc2; subst hq
          exact va_ldcS hx hb hown hr hd (kk H locs rfl hS)
        · have hd := c_d_dec hc2; have hq := c_d_nx hc2; subst hq
          exact n_ldcS hx hb hown hr hd (kk H locs rfl hS)
      · cases hc1
    · cases hs
  · cases hc
theorem m_sel_range (lo x : Int) (f : Nat → Nat) (d : Nat) : ∀ n j : Nat, m_sel ((List.range' j n).map (fun (k : Nat) => (lo + (k : Int), f k))) d x = if lo + (j : Int) ≤ x ∧ x < lo + (j : Int) + (n : Int) then f (x - lo).toNat else d := by
  intro n
  induction n with
  | zero => intro j; rw [if_neg (by omega)]; rfl
  | succ n ih =>
    intro j
    simp only [List.range'_succ, List.map_cons, m_sel]
    by_cases h : x = lo + (j : Int)
    · rw [if_pos h, if_pos (by omega)]
      congr 1
      omega
    · rw [if_neg h, ih]
      by_cases h2 : lo + ((j + 1 : Nat) : Int) ≤ x ∧ x < lo + ((j + 1 : Nat) : Int) + (n : Int)
      · rw [if_pos h2, if_pos (by omega)]
      · rw [if_neg h2, if_neg (by omega)]
theorem m_sel_look (x : Int) (pc d : Nat) (dflt : Int) (hd : (pc : Int) + dflt = (d : Int)) : ∀ ps : List (Int × Int), (∀ q ∈ ps, 0 ≤ (pc : Int) + q.2) → (pc : Int) + Op.lookupswitch.offset ps dflt x = (m_sel (ps.map (fun q => (q.1, ((pc : Int) + q.2).toNat))) d x : Nat) := by
  intro ps
  induction ps with
  | nil => intro _; rw [Op.lookupswitch.offset_nil]; exact hd
  | cons a l ih =>
    intro h
    obtain ⟨k, o⟩ := a
    rw [Op.lookupswitch.offset_cons]
    simp only [List.map_cons, m_sel]
    have h1 := h (k, o) List.mem_cons_self
    simp only at h1
    have ih := ih (fun q hq => h q (List.mem_cons_of_mem _ hq))
    by_cases e : k = x
    · subst e
      simp only [if_true]
      omega
    · rw [if_neg e, if_neg (fun q => e q.symm)]
      exact ih
theorem s_switch (hx : p.tables.exec = Jvm.exec) (hb : c.code = b) {t : List (Int × Nat)} {d : Nat} (hc : c_sw b pc t d = true) {x : Int32} {rest : List Value}
    (kk : W p l e R s m args below meth c H locs cells slots Q (F0 m (m_sel t d x.toInt) LS rest)) : W p l e R s m args below meth c H locs cells slots Q (F0 m pc LS (.int x :: rest)) := by
  unfold c_sw at hc
  split at hc
  · rename_i dflt lo hi offs len hd
    simp only [Bool.and_eq_true, decide_eq_true_eq, List.all_eq_true] at hc
    obtain ⟨⟨⟨h1, h2⟩, h3⟩, h4⟩ := hc
    subst h2
    rw [List.range_eq_range', m_sel_range] at kk
    by_cases hin : x.toInt < lo ∨ hi < x.toInt
    · rw [if_neg (by omega)] at kk
      exact lv_tableOut hx hb hd hin h1 kk
    · rw [if_pos (by omega)] at kk
      have hlt : (x.toInt - lo).toNat < offs.size := by omega
      have e1 : offs[(x.toInt - lo).toNat]? = some (offs.toList.getD (x.toInt - lo).toNat 0) := by
        rw [Array.getElem?_eq_getElem hlt]
        simp [List.getD_eq_getElem?_getD, hlt]
      have h5 := h4 _ (List.mem_of_getElem? (by rw [Array.getElem?_toList]; exact e1))
      exact lv_tableIn hx hb hd (by omega) (by omega) e1 (by omega) kk
  · rename_i dflt ps len hd
    simp only [Bool.and_eq_true, decide_eq_true_eq, List.all_eq_true] at hc
    obtain ⟨⟨⟨h1, h2⟩, h3⟩, h4⟩ := hc
    subst h2
    exact lv_lookup hx hb hd (List.all_eq_true.mpr (fun x9 hx9 => decide_eq_true (h3 x9 hx9))) rfl (m_sel_look x.toInt pc d dflt h1 ps.toList (fun q hq => h4 q hq)) kk
  · cases hc
end Lib2
