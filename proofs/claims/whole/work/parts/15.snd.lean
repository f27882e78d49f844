/-! EVERY RUN OF THE SMALL MACHINE IS A RUN OF THE MACHINE: contracts, ends, calls -/
abbrev P_mx (n k : Nat) (is : List (Nat × MI)) (ls st : List Value) (h : MHp) : Option (MOut × MHp) := mx P_tsw P_txt P_mcl k_dfl P_cd P_hnd P_mxl n k is ls st h
abbrev P_step (i : MI) (ls st : List Value) (h : MHp) : Option MAct := m_step P_tsw P_txt P_mcl k_dfl i ls st h
def s_mc (h h' : MHp) : Nat := (h'.1 + h'.2.2.1) - (h.1 + h.2.2.1)
def s_ms (h h' : MHp) : Nat := (h'.2.1 + 6 * h'.2.2.1) - (h.2.1 + 6 * h.2.2.1)
def s_rm (k : Nat) (h h' : MHp) : Room := { frames := P_mfr k, cells := s_mc h h', slots := s_ms h h', locals := P_mlo k }
section Snd
variable (dC : Nat → ClassId) (dI : Nat → Nat → Nat) (dA : Nat → ClassId) (B0 : Nat) (σ : Nat → Nat) (scr : Nat × (Nat → Int32))
def s_Pc (as : List Value) (h : MHp) : Array Value → State → Prop := va_Pc (as.map (s_v σ)) (fun U => s_E dC dI dA B0 σ scr P_st P_txt U ∧ va_P (dC, dI) vwCl (s_w dA B0 σ h) U.heap ∧ (h.2.2.1 = 0 → U.heap.size = B0 + h.1) ∧ h.1 ≤ 51001 ∧ h.2.2.2 mS = .inl (0, scr.1, .inl scr.2))
def s_post (h' : MHp) (st t : State) : Prop := va_P (dC, dI) vwCl (s_w dA B0 σ h') t.heap ∧ va_F (s_A B0) st t ∧ h'.1 ≤ 51001 ∧ h'.2.2.2 mS = .inl (0, scr.1, .inl scr.2)
def s_Qc (r : MOut) (h' : MHp) : Array Value → State → Outcome → State → Prop := fun _ st o t => ∃ v, r = .inl v ∧ o = .returned (v.map (s_v σ)) ∧ s_post dC dI dA B0 σ scr h' st t
def s_XC (r : MOut) (h' : MHp) : String → State → State → Prop := fun E st t => ∃ j, r = .inr j ∧ E = x_n j ∧ s_post dC dI dA B0 σ scr h' st t
def s_Met (l : Launch) (k : Nat) (as : List Value) (h : MHp) (r : MOut) (h' : MHp) : Prop :=
  vx_Met l (P_mnm k) (P_word k :: GT) (s_rm k h h') (s_Pc dC dI dA B0 σ scr as h) (s_Qc dC dI dA B0 σ scr r h') (s_XC dC dI dA B0 σ scr r h') (s_mc h h') (s_ms h h') (s_A B0)
end Snd
theorem P_word_GT {k : Nat} (hk : k + 1 < NM) : P_word k ∈ GT ∧ P_kword k ∈ GT ∧ Cond.initialized (P_mnm k).cls ∈ GT ∧ (P_kd k = 0 → Cond.selects (P_mnm k).cls (P_mnm k) (P_mnm k) ∈ GT) := by
  obtain ⟨h1, h2, h3, h4⟩ := MPT_in k (by rw [MPT_eq]; exact List.mem_range.mpr (by unfold NM at hk; omega))
  refine ⟨List.mem_filter.mpr ⟨h1, ?_⟩, List.mem_filter.mpr ⟨h2, ?_⟩, List.mem_filter.mpr ⟨h3, rfl⟩, fun e => List.mem_filter.mpr ⟨h4 e, rfl⟩⟩
  · unfold P_word; split <;> rfl
  · unfold P_kword; split <;> rfl
theorem c_met_spec {k : Nat} (hk : k + 1 < NM) : plainName (P_mnm k).cls = true ∧ (P_mnm k).cls ≠ "java/lang/invoke/MethodHandle" ∧ (P_mnm k).cls ≠ "java/lang/invoke/VarHandle" ∧ (P_mnm k).cls = cnm (P_on k) ∧ (P_ini k = true → (P_mnm k).name = "<init>") ∧ (parseMethodDescriptor (P_mnm k).desc).map (fun d => d.parameters.length) = some (P_na k) ∧ 1 ≤ P_mfr k ∧ 40 ≤ P_mlo k ∧ (P_hh k ≠ [] → P_on k = 12 ∧ P_mrt k = some .int ∧ c_hnd k (P_hh k) 1 = true) := by
  have h := (ck_all hk).1
  unfold c_met at h
  simp only [Bool.and_eq_true, decide_eq_true_eq, Bool.or_eq_true, Bool.not_eq_true'] at h
  obtain ⟨⟨⟨⟨⟨⟨⟨⟨h1, h2⟩, h3⟩, h4⟩, h5⟩, h6⟩, h7⟩, h8⟩, h9⟩ := h
  refine ⟨h1, h2, h3, h4, fun e => h5.resolve_left (by rw [e]; decide), h6, h7, h8, fun hne => ?_⟩
  split at h9
  · rename_i e; exact absurd e hne
  · simp only [Bool.and_eq_true, decide_eq_true_eq] at h9
    exact ⟨h9.1.1, h9.1.2, h9.2⟩
theorem GT_in_good {k : Nat} (hk : k + 1 < NM) : GoodIn GT (P_word k :: GT) := by
  intro w hw
  rcases List.mem_cons.mp hw with rfl | h
  · exact ⟨(P_word_GT hk).1, good_of_word (List.mem_filter.mp (P_word_GT hk).1).2⟩
  · exact ⟨h, good_of_word (List.mem_filter.mp h).2⟩
section Snd2
variable {p : Program} {l : Launch} {e : Env} {R : Room} {s : State} {m : MethodId} {args : Array Value} {below : List Frame} {meth : Method} {c : Code} {H : Heap} {locs : List Loc} {cells slots : Nat} {Q : State → Prop}
variable {nL pc q : Nat} {LS : Array Slot} {ls st ls' st' : List Value} {h h' : MHp}
variable {dC : Nat → ClassId} {dI : Nat → Nat → Nat} {dA : Nat → ClassId} {B0 : Nat} {σ : Nat → Nat} {scr : Nat × (Nat → Int32)} {c0 s0 : Nat}
theorem s_Pc_blind {as : List Value} : FrameBlind (s_Pc dC dI dA B0 σ scr as h) := fun v U g mk q => by
  obtain ⟨q0, q1, q2, q3, q4, q5⟩ := q
  exact ⟨q0, s_E_calling g mk v q1, q2, q3, q4, q5⟩
theorem s_Pc_at {as : List Value} (hE : s_E dC dI dA B0 σ scr P_st P_txt s) (hS : s_S dC dI dA B0 σ scr c0 s0 s.heap h H locs cells slots) (hz : H.size ≤ s.heap.size + cells) : ∀ U : State, U.heap = H → s.WarmedH U.vm → s_Pc dC dI dA B0 σ scr as h (as.map (s_v σ)).toArray U := by
  intro U hU hW
  have hS2 := hS.2.1
  rw [← hU] at hS2
  refine ⟨rfl, s_E_warm hE hW hS2, by rw [hU]; exact hS.1, fun e => by rw [hU]; exact s_S_size hS hE.2.2.2.1 hz e, hS.2.2.2.1, hS.2.2.2.2.2.2⟩
/-- behind a call -/
theorem s_run {h1 : MHp} {r1 : MOut} {a : Array Value} {st0 rest : List Value} (hr : vx_Run p l e R s m args below meth c H locs cells slots (s_mc h h1) (s_ms h h1) (F0 m pc LS st0) (rest.map (s_v σ)) (s_Qc dC dI dA B0 σ scr r1 h1 a) (s_XC dC dI dA B0 σ scr r1 h1) (s_A B0))
    (hS : s_S dC dI dA B0 σ scr c0 s0 s.heap h H locs cells slots) (hle : m_le h h1)
    (kk : ∀ (v : Option Value) (H' : Heap) (locs' : List Loc) (cells' slots' : Nat), r1 = .inl v → s_S dC dI dA B0 σ scr c0 s0 s.heap h1 H' locs' cells' slots' → W p l e R s m args below meth c H' locs' cells' slots' Q (F0 m (pc + 3) LS ((v.toList ++ rest).map (s_v σ))))
    (kx : ∀ (E : Nat) (ce : Cell) (q9 : Addr) (H' : Heap) (locs' : List Loc) (cells' slots' : Nat), r1 = .inr E → s_S dC dI dA B0 σ scr c0 s0 s.heap h1 H' locs' cells' slots' → H'[q9]? = some ce → ce.vm = .none → s.vm.findClass (x_n E) = some ce.cls → vx_W p l e R s m args below meth c H' locs' cells' slots' Q (F0 m pc LS (rest.map (s_v σ))) q9) :
    W p l e R s m args below meth c H locs cells slots Q (F0 m pc LS st0) := by
  obtain ⟨hP, hVS, hz0, hle0, hc, hsl, hscr⟩ := hS
  obtain ⟨l1, l2, l3⟩ := hle
  have hmk : ∀ (st₀ t T' : State) (L : List Loc), st₀.heap = H → T'.heap = t.heap → (∀ q ∈ L, s_A B0 q.base) → s_post dC dI dA B0 σ scr h1 st₀ t → s_S dC dI dA B0 σ scr c0 s0 s.heap h1 T'.heap (locs ++ L) (cells + s_mc h h1) (slots + s_ms h h1) := by
    intro st₀ t T' L e0 e1 hL hp
    obtain ⟨p1, p2, p3, p4⟩ := hp
    obtain ⟨k1, k2, k3⟩ := vx_keep (A0 := s_A B0) (A1 := s_A B0) (free := s_A B0) e0 e1 hVS (fun _ _ h => h) (fun _ h => h) hL p2
    exact ⟨by rw [e1]; exact p1, k3, fun ht => hz0 (by omega), p3, by unfold s_mc; omega, by unfold s_ms; omega, p4⟩
  intro T hT X
  rcases hr T hT X with ⟨v, st₀, t, T', L, e0, X', hL, e1, e2, ⟨v', hr1, ho, hpost⟩, st⟩ | ⟨q, st₀, t, T', L, E, ce, e0, X', hL, e1, e2, ⟨j, hr1, hE, hpost⟩, hce, hcv, hcl, st⟩
  · cases ho
    obtain ⟨t2, a1, b1⟩ := kk v' T'.heap _ _ _ hr1 (hmk st₀ t T' L e0 e1 hL hpost) T' rfl X'
    refine ⟨t2, st t2 ?_, b1⟩
    have e9 : (v'.toList ++ rest).map (s_v σ) = (v'.map (s_v σ)).toList ++ rest.map (s_v σ) := by cases v' <;> rfl
    rw [e9] at a1
    exact a1
  · subst hE
    obtain ⟨t2, a1, b1⟩ := kx j ce q T'.heap _ _ _ hr1 (hmk st₀ t T' L e0 e1 hL hpost) (by rw [e1]; exact hce) hcv hcl T' rfl X'
    exact ⟨t2, st.trans a1, b1⟩
theorem s_runV {Qa : State → Outcome → State → Prop} {XC : String → State → State → Prop} {free : Addr → Prop} {mc ms : Nat} {g : JFrame} {rest : List Value} (hr : va_Run p l e R s m args below meth c H locs cells slots mc ms g rest Qa free) : vx_Run p l e R s m args below meth c H locs cells slots mc ms g rest Qa XC free :=
  fun T hT X => Or.inl (hr T hT X)
theorem s_Met_plain {k : Nat} {as : List Value} {v : Option Value} (hM : s_Met dC dI dA B0 σ scr l k as h (.inl v) h') : Met l (P_mnm k) (P_word k :: GT) (s_rm k h h') (s_Pc dC dI dA B0 σ scr as h) (s_Qc dC dI dA B0 σ scr (.inl v) h') (s_mc h h') (s_ms h h') (s_A B0) := by
  refine MetFree.mono hM (fun _ _ h => h) (fun _ _ _ _ _ h => h) (fun a s o s' _ hq => ?_)
  rcases hq with hq | ⟨q, ho, E, ce, L, ⟨j, hj, -⟩, -⟩
  · exact hq
  · cases hj
/-- what a method's body stands in -/
def s_ctx (k : Nat) (p : Program) (l : Launch) (R : Room) (s : State) (m : MethodId) (args : Array Value) (meth : Method) (c : Code) : Prop :=
  p.tables.exec = Jvm.exec ∧ c.code = P_mby k ∧ c.maxLocals = P_mxl k ∧ s.vm.findClass (cnm (P_on k)) = some m.cls ∧ (∀ w ∈ GT, w.before args s = true) ∧ meth.locks = false ∧ meth.sig.returnType = P_mrt k ∧ (P_ini k = true → meth.name = "<init>") ∧ P_mfr k ≤ R.frames ∧ P_mlo k ≤ R.locals ∧ c.exceptionTable.toList = tableOf (P_hh k) ∧ l.stackTraces = false
theorem s_take_rev {n : Nat} {st : List Value} {a : Value} {rest : List Value} (h : st.drop n = a :: rest) : st.map (s_v σ) = ((st.take n).reverse.map (s_v σ)).reverse ++ s_v σ a :: rest.map (s_v σ) := by
  conv => lhs; rw [← List.take_append_drop n st, h]
  simp
set_option maxHeartbeats 4000000 in
theorem s_call {k : Nat} {i : MI} {nx : Option Nat} {y : Nat} {as rest : List Value} {h1 : MHp} {r1 : MOut} (X0 : s_ctx k p l R s m args meth c) (hE : s_E dC dI dA B0 σ scr P_st P_txt s) (hσ : s_P B0 σ) (hl : s_l σ ls LS (P_mxl k))
    (hc : c_call k pc i nx = true) (hS : s_S dC dI dA B0 σ scr c0 s0 s.heap h H locs cells slots) (hs : P_step i ls st h = some (.inr (.inr (.inr (y, as, rest)))))
    (hM : s_Met dC dI dA B0 σ scr l y as h r1 h1) (hle : m_le h h1) (hR : h1.1 + h1.2.2.1 ≤ c0 + R.cells ∧ h1.2.1 + 6 * h1.2.2.1 ≤ s0 + R.slots) (hnx : (P_ini k = true ∨ k + 1 = NM) → ∃ v, r1 = .inl v)
    (kk : ∀ (v : Option Value) (H' : Heap) (locs' : List Loc) (cells' slots' : Nat), r1 = .inl v → s_S dC dI dA B0 σ scr c0 s0 s.heap h1 H' locs' cells' slots' → W p l e R s m args below meth c H' locs' cells' slots' Q (F0 m (pc + 3) LS ((v.toList ++ rest).map (s_v σ))))
    (kx : ∀ (E : Nat) (ce : Cell) (q9 : Addr) (H' : Heap) (locs' : List Loc) (cells' slots' : Nat), r1 = .inr E → s_S dC dI dA B0 σ scr c0 s0 s.heap h1 H' locs' cells' slots' → H'[q9]? = some ce → ce.vm = .none → s.vm.findClass (x_n E) = some ce.cls → vx_W p l e R s m args below meth c H' locs' cells' slots' Q (F0 m pc LS (rest.map (s_v σ))) q9) :
    W p l e R s m args below meth c H locs cells slots Q (F0 m pc LS (st.map (s_v σ))) := by
  refine W.sz (fun hsz => ?_)
  obtain ⟨hx, hb, hml, hown, hts, hlocks, hrt, hin, hRf, hRl, hex, hst⟩ := X0
  obtain ⟨hP, hVS, hz0, hle0, hcc, hsl, hscr⟩ := id hS
  obtain ⟨l1, l2, l3⟩ := id hle
  have hf : cells + s_mc h h1 ≤ R.cells ∧ slots + s_ms h h1 ≤ R.slots := by unfold s_mc s_ms; omega
  have hsz9 : LS.size = P_mxl k := hl.1
  obtain ⟨o, a1, a2, a3, v⟩ := i
  unfold c_call at hc
  split at hc
  · rename_i y9 n pl heq
    cases heq
    simp only [Bool.and_eq_true, decide_eq_true_eq, c_room] at hc
    obtain ⟨⟨⟨⟨⟨⟨⟨⟨r1a, r1b⟩, r1c⟩, r1d⟩, hkd⟩, hh0⟩, hlk⟩, hm1⟩, hm2⟩ := hc
    split at hlk
    · rename_i idx hidx
      have hd := c_d_dec hlk
      have e1 : P_step (40, a1, a2, a3, v) ls st h = m_call P_mcl (40, a1, a2, a3, v) st h := rfl
      rw [e1] at hs
      simp only [m_call, m_k] at hs
      split at hs
      · rename_i a9 rest9 hdrop
        split at hs
        · rename_i hrest
          split at hs
          · rename_i c9 fs hcell
            split at hs
            · rename_i hce
              simp only [Option.some.injEq, Sum.inr.injEq, Prod.mk.injEq] at hs
              obtain ⟨rfl, rfl, rfl⟩ := hs
              obtain ⟨w1, w2, w3, w4⟩ := P_word_GT r1a
              obtain ⟨m1, m2, m3, m4, m5, m6, m7, m8, m9⟩ := c_met_spec r1a
              have hword : P_word a1 = .code (P_mnm a1) (P_mby a1) (P_mxl a1) (P_mrt a1) := by unfold P_word; rw [hh0]
              have hkw : P_kword a1 = .instanceMethod (P_mnm a1) := by unfold P_kword; rw [hkd]; rfl
              obtain ⟨⟨C9, T9, N9⟩, hcl9⟩ : ∃ q, vwCl[P_mcl a1]? = some q := by
                have : P_mcl a1 < vwCl.length := by simpa [vwCl] using hm1
                exact ⟨_, List.getElem?_eq_getElem this⟩
              have hC9 : C9 = (P_mnm a1).cls := by rw [(k_cnm hcl9).1, hm2, m4]
              subst hC9
              have hwA := s_w_get (dA := dA) (B0 := B0) (σ := σ) hrest.2
              rw [hcell, hce] at hwA
              have hcell9 := va_recv hE.1 hP hcl9 hwA
              have hstk := s_take_rev (σ := σ) hdrop
              have hsA : σ a9 = B0 + a9 := hσ a9 (Nat.lt_of_lt_of_le hrest.2 (by omega))
              rw [hstk]
              refine s_run (a := (Value.ref (σ a9) :: (st.take a2).reverse.map (s_v σ)).toArray) (rest := rest9) (vx_runV (nL := P_mxl k) (As := (st.take a2).reverse.map (s_v σ)) (b := σ a9) (C := (P_mnm a1).cls) ⟨hx, hb, hml, hown, hts⟩ hM ⟨callB_of a2 hts (GT_in_good r1a) (by rw [hword]) rfl rfl (hts _ w3) (hts _ (c_link_0 hidx)) ⟨m2, m3, by rw [m6, r1d]⟩ ⟨by show P_mfr a1 + 1 ≤ _; omega, by show 8 + (P_mxl a1 + 11) + P_mlo a1 ≤ _; omega⟩, hts _ (by rw [← hkw]; exact w2), hts _ (w4 hkd)⟩ ⟨s_Pc_blind, ?_, s_Pc_at hE hS hsz⟩ rfl ?_ hsz9 rfl (lv_room (s_sum8 hrest.1)) hd hf) hS hle kk kx
              · rw [hsA]; exact hcell9
              · have := congrArg List.length hdrop
                simp only [List.length_drop, List.length_cons] at this
                simp only [List.length_map, List.length_reverse, List.length_take]
                omega
            · cases hs
          · cases hs
        · cases hs
      · cases hs
    · cases hlk
  · rename_i y9 n pl heq
    cases heq
    simp only [Bool.and_eq_true, decide_eq_true_eq, c_room] at hc
    obtain ⟨⟨⟨⟨⟨r1a, r1b⟩, r1c⟩, r1d⟩, hkd⟩, hlk⟩ := hc
    split at hlk
    · rename_i idx hidx
      have hd := c_d_dec hlk
      have e1 : P_step (41, a1, a2, a3, v) ls st h = m_call P_mcl (41, a1, a2, a3, v) st h := rfl
      rw [e1] at hs
      simp only [m_call, m_k] at hs
      split at hs
      · rename_i hlen
        simp only [Option.some.injEq, Sum.inr.injEq, Prod.mk.injEq] at hs
        obtain ⟨rfl, rfl, rfl⟩ := hs
        obtain ⟨w1, w2, w3, w4⟩ := P_word_GT r1a
        obtain ⟨m1, m2, m3, m4, m5, m6, m7, m8, m9⟩ := c_met_spec r1a
        have hkw : P_kword a1 = .static (P_mnm a1) := by unfold P_kword; rw [hkd]; rfl
        have hstk : st.map (s_v σ) = ((st.take a2).reverse.map (s_v σ)).reverse ++ (st.drop a2).map (s_v σ) := by
          conv => lhs; rw [← List.take_append_drop a2 st]
          simp
        have hln : ((st.take a2).reverse.map (s_v σ)).length = a2 := by
          simp only [List.length_map, List.length_reverse, List.length_take]
          omega
        rw [hstk]
        rcases hhh : P_hh a1 with _ | ⟨q0, ql⟩
        · have hword : P_word a1 = .code (P_mnm a1) (P_mby a1) (P_mxl a1) (P_mrt a1) := by unfold P_word; rw [hhh]
          exact s_run (a := ((st.take a2).reverse.map (s_v σ)).toArray) (rest := st.drop a2) (vx_runS (nL := P_mxl k) (As := (st.take a2).reverse.map (s_v σ)) ⟨hx, hb, hml, hown, hts⟩ hM ⟨callB_of a2 hts (GT_in_good r1a) (by rw [hword]) rfl rfl (hts _ w3) (hts _ (c_link_0 hidx)) ⟨m2, m3, by rw [m6, r1d]⟩ ⟨by show P_mfr a1 + 1 ≤ _; omega, by show 8 + (P_mxl a1 + 11) + P_mlo a1 ≤ _; omega⟩, hts _ (by rw [← hkw]; exact w2)⟩ ⟨s_Pc_blind, s_Pc_at hE hS hsz⟩ rfl hln hsz9 rfl (lv_room (s_sum8 hlen.2)) hd hf) hS hle kk kx
        · have hword : P_word a1 = .codeWith (P_mnm a1) (P_mby a1) (P_mxl a1) (P_mrt a1) (q0 :: ql) := by unfold P_word; rw [hhh]
          have hG : GoodIn GT (va_wsS (cnm (P_on k)) idx (P_mnm a1) (P_word a1 :: GT)) := by
            intro w hw
            unfold va_wsS at hw
            rcases List.mem_append.mp hw with hw | hw
            · simp only [List.mem_cons, List.not_mem_nil, or_false] at hw
              rcases hw with rfl | rfl | rfl
              · exact ⟨c_link_0 hidx, good_of_word rfl⟩
              · exact ⟨by rw [← hkw]; exact w2, good_of_word rfl⟩
              · exact ⟨w3, good_of_word rfl⟩
            · exact GT_in_good r1a w hw
          exact s_run (a := ((st.take a2).reverse.map (s_v σ)).toArray) (rest := st.drop a2) (vx_runSX (nL := P_mxl k) (As := (st.take a2).reverse.map (s_v σ)) ⟨hx, hb, hml, hown, hts⟩ hM (vx_cwSW (hh := q0 :: ql) a2 hts hG (by rw [hword]) rfl rfl ⟨m2, m3, by rw [m6, r1d]⟩ ⟨by show P_mfr a1 + 1 ≤ _; omega, by show 8 + (P_mxl a1 + 11) + P_mlo a1 ≤ _; omega⟩) ⟨s_Pc_blind, s_Pc_at hE hS hsz⟩ rfl hln hsz9 rfl (lv_room (s_sum8 hlen.2)) hd hf) hS hle kk kx
      · cases hs
    · cases hlk
  · rename_i y9 n pl heq
    cases heq
    simp only [Bool.and_eq_true, Bool.or_eq_true, decide_eq_true_eq, c_room] at hc
    obtain ⟨⟨⟨⟨⟨⟨⟨⟨⟨r1a, r1b⟩, r1c⟩, r1d⟩, hkd⟩, hh0⟩, hrn⟩, hini⟩, hik⟩, hlk⟩ := hc
    obtain ⟨v1, rfl⟩ := hnx hik
    split at hlk
    · rename_i idx hidx
      have hd := c_d_dec hlk
      have e1 : P_step (42, a1, a2, a3, v) ls st h = m_call P_mcl (42, a1, a2, a3, v) st h := rfl
      rw [e1] at hs
      simp only [m_call, m_k] at hs
      split at hs
      · rename_i a9 rest9 hdrop
        split at hs
        · rename_i hrest
          simp only [Option.some.injEq, Sum.inr.injEq, Prod.mk.injEq] at hs
          obtain ⟨rfl, rfl, rfl⟩ := hs
          obtain ⟨w1, w2, w3, w4⟩ := P_word_GT r1a
          obtain ⟨m1, m2, m3, m4, m5, m6, m7, m8, m9⟩ := c_met_spec r1a
          have hword : P_word a1 = .code (P_mnm a1) (P_mby a1) (P_mxl a1) none := by unfold P_word; rw [hh0, hrn]
          have hkw : P_kword a1 = .instanceMethod (P_mnm a1) := by unfold P_kword; rw [hkd]; rfl
          have hstk := s_take_rev (σ := σ) hdrop
          rw [hstk]
          refine s_run (a := (Value.ref (σ a9) :: (st.take a2).reverse.map (s_v σ)).toArray) (rest := rest9) (s_runV (va_runI (nL := P_mxl k) (bytes := P_mby a1) (maxL := P_mxl a1) (As := (st.take a2).reverse.map (s_v σ)) (b := σ a9) ⟨hx, hb, hml, hown, hts⟩ (s_Met_plain hM) ⟨callB_of a2 hts (GT_in_good r1a) (by rw [hword]) rfl rfl (hts _ w3) (hts _ (c_link_0 hidx)) ⟨m2, m3, by rw [m6, r1d]⟩ ⟨by show P_mfr a1 + 1 ≤ _; omega, by show 8 + (P_mxl a1 + 11) + P_mlo a1 ≤ _; omega⟩, m5 hini, hts _ (by rw [← hkw]; exact w2)⟩ ⟨s_Pc_blind, s_Pc_at hE hS hsz⟩ rfl ?_ hsz9 rfl (lv_room (s_sum8 hrest.1)) hd hf)) hS hle kk kx
          have := congrArg List.length hdrop
          simp only [List.length_drop, List.length_cons] at this
          simp only [List.length_map, List.length_reverse, List.length_take]
          omega
        · cases hs
      · cases hs
    · cases hlk
  · rename_i y9 n pl heq
    cases heq
    simp only [Bool.and_eq_true, Bool.or_eq_true, decide_eq_true_eq, c_room] at hc
    obtain ⟨⟨⟨⟨⟨⟨⟨⟨⟨r1a, r1b⟩, r1c⟩, r1d⟩, hkd⟩, hh0⟩, hrn⟩, hini⟩, hik⟩, hlk⟩ := hc
    obtain ⟨v1, rfl⟩ := hnx hik
    split at hlk
    · rename_i idx hidx
      have hd := c_d_dec hlk
      have e1 : P_step (43, a1, a2, a3, v) ls st h = m_call P_mcl (43, a1, a2, a3, v) st h := rfl
      rw [e1] at hs
      simp only [m_call, m_k] at hs
      split at hs
      · rename_i a9 rest9 hdrop
        split at hs
        · rename_i hrest
          simp only [Option.some.injEq, Sum.inr.injEq, Prod.mk.injEq] at hs
          obtain ⟨rfl, rfl, rfl⟩ := hs
          obtain ⟨w1, w2, w3, w4⟩ := P_word_GT r1a
          obtain ⟨m1, m2, m3, m4, m5, m6, m7, m8, m9⟩ := c_met_spec r1a
          have hword : P_word a1 = .code (P_mnm a1) (P_mby a1) (P_mxl a1) none := by unfold P_word; rw [hh0, hrn]
          have hkw : P_kword a1 = .instanceMethod (P_mnm a1) := by unfold P_kword; rw [hkd]; rfl
          have hstk := s_take_rev (σ := σ) hdrop
          rw [hstk]
          refine s_run (a := (Value.ref (σ a9) :: (st.take a2).reverse.map (s_v σ)).toArray) (rest := rest9) (s_runV (va_runIN (nL := P_mxl k) (bytes := P_mby a1) (maxL := P_mxl a1) (host := RX10) (As := (st.take a2).reverse.map (s_v σ)) (b := σ a9) ⟨hx, hb, hml, hown, hts⟩ (s_Met_plain hM) ⟨va_cnB a2 hts (GT_in_good r1a) (by rw [hword]) rfl rfl (hE.2.2.2.2.2.2.2.2.2.1 _ (c_link_1 hidx)) (hts _ w3) ⟨m2, m3, by rw [m6, r1d]⟩ ⟨by show P_mfr a1 + 1 ≤ _; omega, by show 8 + (P_mxl a1 + 11) + P_mlo a1 ≤ _; omega⟩, m5 hini, hts _ (by rw [← hkw]; exact w2)⟩ ⟨s_Pc_blind, s_Pc_at hE hS hsz⟩ rfl ?_ hsz9 rfl (lv_room (s_sum8 hrest.1)) hd hf)) hS hle kk kx
          have := congrArg List.length hdrop
          simp only [List.length_drop, List.length_cons] at this
          simp only [List.length_map, List.length_reverse, List.length_take]
          omega
        · cases hs
      · cases hs
    · cases hlk
  · cases hc
end Snd2
