/-! ENDS, THROWS, TEXTS: the steps that are left -/
theorem P_txt_st {j : Nat} (h : 0 < (P_txt j).length) : ∃ q, P_st[j]? = some q := by
  by_cases hj : j < P_st.length
  · exact ⟨_, List.getElem?_eq_getElem hj⟩
  · have hl : P_TX.length ≤ j := by
      have e1 : P_st.length = 46 := by decide +kernel
      have e2 : P_TX.length = 46 := by decide +kernel
      omega
    unfold P_txt at h
    rw [List.getD_eq_getElem?_getD, List.getElem?_eq_none hl] at h
    simp at h
def P_byte (x : Int32) : Bool := decide (((x &&& 255).toUInt32 % 65536).toInt32 = x) && decide (narrow .char (.int x) = .int x)
theorem P_bytes : P_TX.all (fun t => t.all P_byte && decide (t.length < 100)) = true := by decide +kernel
theorem P_txt_byte {j : Nat} : (P_txt j).length < 100 ∧ ∀ k, k < (P_txt j).length → sByte ((P_txt j).getD k 0) := by
  unfold P_txt
  rw [List.getD_eq_getElem?_getD]
  rcases h : P_TX[j]? with _ | t
  · simp
  · have h1 := List.all_eq_true.mp P_bytes t (List.mem_of_getElem? h)
    simp only [Bool.and_eq_true, decide_eq_true_eq, List.all_eq_true] at h1
    refine ⟨by simpa using h1.2, fun k hk => ?_⟩
    simp only [Option.getD_some] at hk ⊢
    have h2 := h1.1 (t.getD k 0) (by rw [List.getD_eq_getElem?_getD, List.getElem?_eq_getElem hk]; exact List.getElem_mem hk)
    simp only [P_byte, Bool.and_eq_true, decide_eq_true_eq] at h2
    exact h2
section Body1
variable {p : Program} {l : Launch} {e : Env} {R : Room} {s : State} {m : MethodId} {args : Array Value} {below : List Frame} {meth : Method} {c : Code} {H : Heap} {locs : List Loc} {cells slots : Nat} {Q : State → Prop}
variable {nL pc q : Nat} {LS : Array Slot} {ls st ls' st' : List Value} {h h' : MHp}
variable {dC : Nat → ClassId} {dI : Nat → Nat → Nat} {dA : Nat → ClassId} {B0 : Nat} {σ : Nat → Nat} {scr : Nat × (Nat → Int32)} {c0 s0 : Nat}
theorem PsL_warm {s U : State} {a aV n : Nat} {f : Nat → Value} {locs : List Loc} (h : PsL B0 a aV n f s) (hW : s.WarmedH U.vm) (hS : va_S (s_A B0) s.heap U.heap locs) : PsL B0 a aV n f U := by
  have ha := hW.alike
  have hq : ∀ a : Nat, a < s.heap.size → ¬ s_A B0 a → U.heap[a]? = s.heap[a]? := hS.2.1
  exact ⟨⟨(h.1.1.moved ha).kept hq, (h.1.2.moved ha).kept hq⟩, (h.2.1.moved ha).kept hq, (h.2.2.1.moved ha).kept hq, (h.2.2.2.1.moved ha).kept hq, (h.2.2.2.2.moved ha).kept hq⟩
theorem PsL_blind {a aV n : Nat} {f : Nat → Value} {as : List Value} : FrameBlind (va_Pc as (PsL B0 a aV n f)) := fun v U g mk q =>
  ⟨q.1, PsL_warm (U := U.calling g mk v) (locs := []) q.2 (State.WarmedH.refl U) va_S.rf⟩
theorem s_strop {k : Nat} {i : MI} (X0 : s_ctx k p l R s m args meth c) (hE : s_E dC dI dA B0 σ scr P_st P_txt s) (hl : s_l σ ls LS (P_mxl k)) (hc : c_strop k pc i (some q) = true)
    (hS : s_S dC dI dA B0 σ scr c0 s0 s.heap h H locs cells slots) (hRc : cells ≤ R.cells ∧ slots ≤ R.slots) (hs : P_step i ls st h = some (.inl (ls', st', h')))
    (kk : ls' = ls → h' = h → W p l e R s m args below meth c H locs cells slots Q (F0 m q LS (st'.map (s_v σ)))) : W p l e R s m args below meth c H locs cells slots Q (F0 m pc LS (st.map (s_v σ))) := by
  obtain ⟨hx, hb, hml, hown, hts, hlocks, hrt, hin, hRf, hRl, hex, hst⟩ := X0
  obtain ⟨o, a1, a2, a3, v⟩ := i
  have key : ∀ a : Nat, 0 < (P_txt (a - mK)).length → mK ≤ a → ∃ aV : Nat, PsL B0 (σ a) aV (P_txt (a - mK)).length (fun i => .int ((P_txt (a - mK)).getD i 0)) s := by
    intro a h1 h2
    obtain ⟨q9, hq9⟩ := P_txt_st h1
    obtain ⟨aV, f1, f2, f3, f4⟩ := (hE.2.2.2.2.2.2.1 _ q9 hq9).2 h1
    rw [show mK + (a - mK) = a by omega] at f1 f2 f3
    exact ⟨aV, ⟨f2, hE.2.2.2.2.2.2.2.2.2.2.1⟩, f1, f3, f4, hE.2.2.2.2.2.2.2.2.2.2.2.1⟩
  have recv : ∀ a aV n f, PsL B0 a aV n f s → ∃ cell : Cell, H[a]? = some cell ∧ cell.vm.isStatics = false ∧ s.vm.findClass RJ0 = some cell.cls := by
    intro a aV n f hp
    obtain ⟨cell, g1, g2, g3, g4⟩ := hp.2.1
    exact ⟨cell, by rw [hS.2.1.2.1 a (Array.getElem?_eq_some_iff.mp g1).1 g4]; exact g1, g2, g3⟩
  have pre : ∀ a aV n f (as : List Value), PsL B0 a aV n f s → ∀ U : State, U.heap = H → s.WarmedH U.vm → va_Pc as (PsL B0 a aV n f) as.toArray U := by
    intro a aV n f as hp U hU hW
    have h9 := hS.2.1
    rw [← hU] at h9
    exact ⟨rfl, PsL_warm hp hW h9⟩
  unfold c_strop at hc
  split at hc
  · rename_i idx a2 pl heq
    cases heq
    simp only [Bool.and_eq_true, decide_eq_true_eq] at hc
    obtain ⟨⟨⟨hw, hd9⟩, hf1⟩, hf2⟩ := hc
    have hd := c_d_dec hd9; have hq := c_d_nx hd9; subst hq
    have e1 : P_step (47, a1, a2, a3, v) ls st h = m_lib P_txt (47, a1, a2, a3, v) ls st h := rfl
    rw [e1] at hs
    simp only [m_lib, m_n] at hs
    split at hs
    · rename_i a st
      split at hs
      · rename_i hcond
        obtain ⟨g1, g2, g3, g4⟩ := hcond
        simp only [Option.some.injEq, Sum.inl.injEq, Prod.mk.injEq] at hs
        obtain ⟨rfl, rfl, rfl⟩ := hs
        obtain ⟨aV, hp⟩ := key a g4 g1
        have hn := (P_txt_byte (j := a - mK)).1
        exact n_call0 (v := some (.int (Int32.ofNat (P_txt (a - mK)).length))) (rest := st.map (s_v σ)) (va_runV (nL := P_mxl k) (As := []) (b := σ a) (C := RJ0) ⟨hx, hb, hml, hown, hts⟩ (cs_length l (σ a) aV _ _ (by omega)) ⟨callB_of 0 hts (gt_good gc_len (fun _ h => h)) rfl rfl rfl (hts _ gi_0) (hts _ (c_w_in hw)) (by decide +kernel) ⟨by show 2 + 1 ≤ _; omega, by show 8 + (1 + 11) + 40 ≤ _; omega⟩, hts _ gt_len, hts _ gz_len⟩
          ⟨PsL_blind, recv _ _ _ _ hp, pre _ _ _ _ _ hp⟩ rfl rfl hl.1 rfl (lv_room (s_sum8 g3)) hd ⟨by omega, by omega⟩) (kk rfl rfl)
      · cases hs
    · cases hs
  · rename_i idx a2 pl heq
    cases heq
    simp only [Bool.and_eq_true, decide_eq_true_eq] at hc
    obtain ⟨⟨⟨hw, hd9⟩, hf1⟩, hf2⟩ := hc
    have hd := c_d_dec hd9; have hq := c_d_nx hd9; subst hq
    have e1 : P_step (48, a1, a2, a3, v) ls st h = m_lib P_txt (48, a1, a2, a3, v) ls st h := rfl
    rw [e1] at hs
    simp only [m_lib, m_n] at hs
    split at hs
    · rename_i i a st
      split at hs
      · rename_i hcond
        obtain ⟨g1, g2, g3, g4⟩ := hcond
        simp only [Option.some.injEq, Sum.inl.injEq, Prod.mk.injEq] at hs
        obtain ⟨rfl, rfl, rfl⟩ := hs
        have hn := (P_txt_byte (j := a - mK)).1
        rw [m_in_iff] at g4
        obtain ⟨k9, hk9, rfl⟩ := vp_in_of g4 (by omega)
        obtain ⟨aV, hp⟩ := key a (by omega) g1
        have g4 := kk rfl rfl
        rw [nI_clamp (by omega)] at g4
        exact n_call0 (v := some (.int ((P_txt (a - mK)).getD k9 0))) (rest := st.map (s_v σ)) (va_runV (nL := P_mxl k) (As := [.int (nI k9)]) (b := σ a) (C := RJ0) ⟨hx, hb, hml, hown, hts⟩ (cs_char l (σ a) aV _ k9 _ _ hk9 (by omega) rfl ((P_txt_byte (j := a - mK)).2 k9 hk9)) ⟨callB_of 1 hts (gt_good gc_ch (fun _ h => h)) rfl rfl rfl (hts _ gi_0) (hts _ (c_w_in hw)) (by decide +kernel) ⟨by show 4 + 1 ≤ _; omega, by show 8 + (2 + 11) + 95 ≤ _; omega⟩, hts _ gt_ch, hts _ gz_ch⟩
          ⟨PsL_blind, recv _ _ _ _ hp, pre _ _ _ _ _ hp⟩ rfl rfl hl.1 rfl (lv_room (s_sum8 g3)) hd ⟨by omega, by omega⟩) g4
      · cases hs
    · cases hs
  · cases hc
/-- a return -/
theorem s_end {k : Nat} {i : MI} {v9 : Option Value} {Qc : Array Value → State → Outcome → State → Prop} {XC : String → State → State → Prop} {free : Addr → Prop} (X0 : s_ctx k p l R s m args meth c) (hc : c_ret (P_mby k) (P_mrt k) pc i = true) (hs : P_step i ls st h = some (.inr (.inr (.inl (.inl v9, h')))))
    (hq : ∀ t : State, t.heap = H → s.WarmedH t.vm → Qc args s (.returned (v9.map (s_v σ))) t) (hf : ∀ q ∈ locs, free q.base) : h' = h ∧ W p l e R s m args below meth c H locs cells slots (vx_MQ below Qc XC args s cells slots free) (F0 m pc LS (st.map (s_v σ))) := by
  obtain ⟨hx, hb, hml, hown, hts, hlocks, hrt, hin, hRf, hRl, hex, hst⟩ := X0
  obtain ⟨o, a1, a2, a3, v⟩ := i
  unfold c_ret at hc
  split at hc
  · rename_i z heq
    cases heq
    simp only [Bool.and_eq_true, decide_eq_true_eq] at hc
    simp only [P_step, m_step, m_d] at hs
    split at hs
    · rename_i x
      split at hs
      · rename_i hz
        simp only [Option.some.injEq, Sum.inr.injEq, Sum.inl.injEq, Prod.mk.injEq] at hs
        obtain ⟨rfl, rfl⟩ := hs
        refine ⟨rfl, ?_⟩
        obtain ⟨hd, hr⟩ := hc
        split at hr
        · simp only [decide_eq_true_eq] at hr
          rw [hr] at hrt
          exact vx_ret (W.iret hx hb hrt hq hf hd hlocks)
        · rename_i hz9
          simp only [decide_eq_true_eq] at hr
          rw [hr] at hrt
          refine vx_ret (W.zret hx hb hrt ?_ hq hf hd hlocks)
          rcases hz with h9 | rfl | rfl
          · exact absurd h9 hz9
          · decide
          · decide
      · cases hs
    · cases hs
  · rename_i heq
    cases heq
    simp only [Bool.and_eq_true, decide_eq_true_eq] at hc
    simp only [P_step, m_step, m_d] at hs
    split at hs
    · simp only [Option.some.injEq, Sum.inr.injEq, Sum.inl.injEq, Prod.mk.injEq] at hs
      obtain ⟨rfl, rfl⟩ := hs
      refine ⟨rfl, ?_⟩
      rw [hc.2] at hrt
      exact vx_ret (W.lret hx hb hrt hq hf hc.1 hlocks)
    · cases hs
  · rename_i heq
    cases heq
    simp only [Bool.and_eq_true, decide_eq_true_eq] at hc
    simp only [P_step, m_step, m_d] at hs
    split at hs
    · simp only [Option.some.injEq, Sum.inr.injEq, Sum.inl.injEq, Prod.mk.injEq] at hs
      obtain ⟨rfl, rfl⟩ := hs
      refine ⟨rfl, ?_⟩
      rw [hc.2] at hrt
      exact vx_ret (W.vret hx hb hrt hq hf hc.1 hlocks)
    · cases hs
  · cases hc
end Body1
