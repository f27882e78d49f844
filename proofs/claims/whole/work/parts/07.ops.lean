/-! WHAT A PROGRAM CHECKS OF AN INSTRUCTION'S PLACE: its bytes decode to it, the words that it needs stand in the tables -/
section Ops
variable {p : Program} {l : Launch} {e : Env} {R : Room} {s : State} {m : MethodId} {args : Array Value} {below : List Frame} {meth : Method} {c : Code} {H : Heap} {locs : List Loc} {cells slots : Nat} {Q : State → Prop}
variable {own : String} {b : ByteArray} {nL pc q : Nat} {σ : Nat → Nat} {LS : Array Slot} {ls st ls' st' : List Value} {h h' : MHp}
variable {tsw : Nat → List (Int × Nat) × Nat} {txt : Nat → List Int32} {mcl : Nat → Nat} {dfl : Nat → List Value}
theorem s_l_at {ls : List Value} {LS : Array Slot} {n j : Nat} {v : Value} (hl : s_l σ ls LS n) (hj : ls[j]? = some v) (hv : v ≠ .null) : LS[j]? = some (.val (s_v σ v)) := hl.2.2 j v hj hv
theorem s_catle (st : List Value) : ((st.map (s_v σ)).map fun v => v.category).sum ≤ 2 * st.length := by
  induction st with
  | nil => simp
  | cons a l ih =>
    simp only [List.map_cons, List.sum_cons, List.length_cons]
    have : (s_v σ a).category ≤ 2 := by rw [s_v_cat]; cases a <;> simp [Value.category]
    omega
theorem s_lcmp (x y : Int64) : m_lcmp x y = lg_cmp x y := rfl
theorem c_n_eq {q z : Nat} (h : c_n (some q) z = true) : q = z := by simpa [c_n] using h
theorem s_c21 (hx : p.tables.exec = Jvm.exec) (hb : c.code = b) {cn L : Nat} {nx : Option Nat} (hc : c_d b pc (.ifCond (c_cnd cn) (c_o pc L)) 3 nx = true) {x : Int32} {rest : List Value}
    (kt : m_c cn x 0 = true → W p l e R s m args below meth c H locs cells slots Q (F0 m L LS rest)) (kf : m_c cn x 0 = false → W p l e R s m args below meth c H locs cells slots Q (F0 m (pc + 3) LS rest)) :
    W p l e R s m args below meth c H locs cells slots Q (F0 m pc LS (.int x :: rest)) := by
  have hd := c_d_dec hc
  unfold m_c at kt kf
  unfold c_cnd at hd
  split at hd <;> simp only [decide_eq_true_eq, decide_eq_false_iff_not] at kt kf
  · exact lv_if_eq hx hb hd (c_o_eq pc L) kt kf
  · exact lv_if_ne hx hb hd (c_o_eq pc L) kt (fun h9 => kf (fun z => z h9))
  · exact lv_if_lt hx hb hd (c_o_eq pc L) kt kf
  · exact lv_if_ge hx hb hd (c_o_eq pc L) kt kf
  · exact lv_if_gt hx hb hd (c_o_eq pc L) kt kf
  · exact lv_if_le hx hb hd (c_o_eq pc L) kt kf
theorem s_c22 (hx : p.tables.exec = Jvm.exec) (hb : c.code = b) {cn L : Nat} {nx : Option Nat} (hc : c_d b pc (.if_icmp (c_cnd cn) (c_o pc L)) 3 nx = true) {x y : Int32} {rest : List Value}
    (kt : m_c cn x y = true → W p l e R s m args below meth c H locs cells slots Q (F0 m L LS rest)) (kf : m_c cn x y = false → W p l e R s m args below meth c H locs cells slots Q (F0 m (pc + 3) LS rest)) :
    W p l e R s m args below meth c H locs cells slots Q (F0 m pc LS (.int y :: .int x :: rest)) := by
  have hd := c_d_dec hc
  unfold m_c at kt kf
  unfold c_cnd at hd
  split at hd <;> simp only [decide_eq_true_eq, decide_eq_false_iff_not] at kt kf
  · exact lv_icmp_eq hx hb hd (c_o_eq pc L) kt kf
  · exact lv_icmp_ne hx hb hd (c_o_eq pc L) kt (fun h9 => kf (fun z => z h9))
  · exact lv_icmp_lt hx hb hd (c_o_eq pc L) kt kf
  · exact lv_icmp_ge hx hb hd (c_o_eq pc L) kt kf
  · exact lv_icmp_gt hx hb hd (c_o_eq pc L) kt kf
  · exact lv_icmp_le hx hb hd (c_o_eq pc L) kt kf
set_option maxHeartbeats 4000000 in
/-- an instruction that goes on to the next one: the heap stays -/
theorem s_simple (hx : p.tables.exec = Jvm.exec) (hb : c.code = b) (hown : s.vm.findClass own = some m.cls) (hts : ∀ w ∈ GT, w.before args s = true) {i : MI} (hc : c_simple own b nL pc i (some q) = true) (hl : s_l σ ls LS nL)
    (hs : m_step tsw txt mcl dfl i ls st h = some (.inl (ls', st', h')))
    (kk : ∀ LS' : Array Slot, h' = h → s_l σ ls' LS' nL → W p l e R s m args below meth c H locs cells slots Q (F0 m q LS' (st'.map (s_v σ)))) :
    W p l e R s m args below meth c H locs cells slots Q (F0 m pc LS (st.map (s_v σ))) := by
  obtain ⟨o, a1, a2, a3, v⟩ := i
  unfold c_simple at hc
  split at hc
  · -- constants
    rename_i f idx pl v heq
    cases heq
    simp only [m_step, m_n, Option.some.injEq, Sum.inl.injEq, Prod.mk.injEq] at hs
    obtain ⟨rfl, rfl, rfl⟩ := hs
    split at hc
    · have hd := c_d_dec hc; have hq := c_d_nx hc; subst hq
      exact lv_iconst hx hb hd (Int32.ofInt_toInt v) (kk LS rfl hl)
    · simp only [Bool.and_eq_true, decide_eq_true_eq] at hc
      have hd := c_d_dec hc.1; have hq := c_d_nx hc.1; subst hq
      exact lv_bipush hx hb hd hc.2 (kk LS rfl hl)
    · simp only [Bool.and_eq_true, decide_eq_true_eq] at hc
      have hd := c_d_dec hc.1; have hq := c_d_nx hc.1; subst hq
      exact lv_sipush hx hb hd hc.2 (kk LS rfl hl)
    · simp only [Bool.and_eq_true] at hc
      have hd := c_d_dec hc.1; have hq := c_d_nx hc.1; subst hq
      exact lv_ldc hx hb hown (hts _ (c_w_in hc.2)) hd (kk LS rfl hl)
    · simp only [Bool.and_eq_true] at hc
      have hd := c_d_dec hc.1; have hq := c_d_nx hc.1; subst hq
      exact lv_ldcw hx hb hown (hts _ (c_w_in hc.2)) hd (kk LS rfl hl)
  · rename_i n heq
    cases heq
    simp only [m_step, m_n, Option.some.injEq, Sum.inl.injEq, Prod.mk.injEq] at hs
    obtain ⟨rfl, rfl, rfl⟩ := hs
    split at hc
    · have hd := c_d_dec hc; have hq := c_d_nx hc; subst hq
      exact lv_lconst hx hb hd rfl (kk LS rfl hl)
    · have hd := c_d_dec hc; have hq := c_d_nx hc; subst hq
      exact lv_lconst hx hb hd rfl (kk LS rfl hl)
    · cases hc
  · rename_i j len heq
    cases heq
    simp only [m_step, m_n] at hs
    split at hs
    · rename_i x hj
      simp only [Option.some.injEq, Sum.inl.injEq, Prod.mk.injEq] at hs
      obtain ⟨rfl, rfl, rfl⟩ := hs
      have hv := s_l_at hl hj (by simp)
      split at hc
      · simp only [Bool.and_eq_true, decide_eq_true_eq] at hc
        have hd := c_d_dec hc.2; have hq := c_d_nx hc.2; subst hq
        exact lv_iload_n hx hb hd hc.1 hv (kk LS rfl hl)
      · have hd := c_d_dec hc; have hq := c_d_nx hc; subst hq
        exact lv_iload hx hb hd hv (kk LS rfl hl)
    · cases hs
  · rename_i j len heq
    cases heq
    simp only [m_step, m_n] at hs
    split at hs
    · rename_i x hj
      simp only [Option.some.injEq, Sum.inl.injEq, Prod.mk.injEq] at hs
      obtain ⟨rfl, rfl, rfl⟩ := hs
      have hv := s_l_at hl hj (by simp)
      split at hc
      · simp only [Bool.and_eq_true, decide_eq_true_eq] at hc
        have hd := c_d_dec hc.2; have hq := c_d_nx hc.2; subst hq
        exact lv_lload_n hx hb hd hc.1 hv (kk LS rfl hl)
      · have hd := c_d_dec hc; have hq := c_d_nx hc; subst hq
        exact lv_lload hx hb hd hv (kk LS rfl hl)
    · cases hs
  · rename_i j len heq
    cases heq
    simp only [m_step, m_n] at hs
    split at hs
    · rename_i x hj
      simp only [Option.some.injEq, Sum.inl.injEq, Prod.mk.injEq] at hs
      obtain ⟨rfl, rfl, rfl⟩ := hs
      have hv := s_l_at hl hj (by simp)
      split at hc
      · simp only [Bool.and_eq_true, decide_eq_true_eq] at hc
        have hd := c_d_dec hc.2; have hq := c_d_nx hc.2; subst hq
        exact lv_aload_n hx hb hd hc.1 hv (kk LS rfl hl)
      · have hd := c_d_dec hc; have hq := c_d_nx hc; subst hq
        exact lv_aload hx hb hd hv (kk LS rfl hl)
    · cases hs
  · rename_i j len heq
    cases heq
    simp only [m_step, m_n] at hs
    split at hs
    · rename_i x st
      simp only [Option.some.injEq, Sum.inl.injEq, Prod.mk.injEq] at hs
      obtain ⟨rfl, rfl, rfl⟩ := hs
      simp only [Bool.and_eq_true, decide_eq_true_eq] at hc
      obtain ⟨hj, hc⟩ := hc
      split at hc
      · simp only [Bool.and_eq_true, decide_eq_true_eq] at hc
        have hd := c_d_dec hc.2; have hq := c_d_nx hc.2; subst hq
        exact lv_istore_n hx hb hd hc.1 (s_as_has hl) hj rfl (fun LS' h9 => kk LS' rfl (s_l_st1 (w := .int x) rfl h9))
      · have hd := c_d_dec hc; have hq := c_d_nx hc; subst hq
        exact lv_istore hx hb hd (s_as_has hl) hj rfl (fun LS' h9 => kk LS' rfl (s_l_st1 (w := .int x) rfl h9))
    · cases hs
  · rename_i j len heq
    cases heq
    simp only [m_step, m_n] at hs
    split at hs
    · rename_i x st
      simp only [Option.some.injEq, Sum.inl.injEq, Prod.mk.injEq] at hs
      obtain ⟨rfl, rfl, rfl⟩ := hs
      simp only [Bool.and_eq_true, decide_eq_true_eq] at hc
      obtain ⟨hj, hc⟩ := hc
      split at hc
      · simp only [Bool.and_eq_true, decide_eq_true_eq] at hc
        have hd := c_d_dec hc.2; have hq := c_d_nx hc.2; subst hq
        exact lv_lstore_n hx hb hd hc.1 (s_as_has hl) hj rfl (fun LS' h9 => kk LS' rfl (s_l_st2 (w := .long x) rfl h9))
      · have hd := c_d_dec hc; have hq := c_d_nx hc; subst hq
        exact lv_lstore hx hb hd (s_as_has hl) hj rfl (fun LS' h9 => kk LS' rfl (s_l_st2 (w := .long x) rfl h9))
    · cases hs
  · rename_i j len heq
    cases heq
    simp only [m_step, m_n] at hs
    split at hs
    · rename_i x st
      simp only [Option.some.injEq, Sum.inl.injEq, Prod.mk.injEq] at hs
      obtain ⟨rfl, rfl, rfl⟩ := hs
      simp only [Bool.and_eq_true, decide_eq_true_eq] at hc
      obtain ⟨hj, hc⟩ := hc
      split at hc
      · simp only [Bool.and_eq_true, decide_eq_true_eq] at hc
        have hd := c_d_dec hc.2; have hq := c_d_nx hc.2; subst hq
        exact lv_astore_n hx hb hd hc.1 (s_as_has hl) hj rfl (fun LS' h9 => kk LS' rfl (s_l_st1 (w := .ref x) rfl h9))
      · have hd := c_d_dec hc; have hq := c_d_nx hc; subst hq
        exact lv_astore hx hb hd (s_as_has hl) hj rfl (fun LS' h9 => kk LS' rfl (s_l_st1 (w := .ref x) rfl h9))
    · cases hs
  · rename_i j a2 a3 v heq
    cases heq
    simp only [m_step, m_n] at hs
    split at hs
    · rename_i x hj
      simp only [Option.some.injEq, Sum.inl.injEq, Prod.mk.injEq] at hs
      obtain ⟨rfl, rfl, rfl⟩ := hs
      simp only [Bool.and_eq_true, decide_eq_true_eq] at hc
      have hd := c_d_dec hc.2; have hq := c_d_nx hc.2; subst hq
      obtain ⟨k9, hk9⟩ := List.mem_iff_getElem?.mp (s_as_in (σ := σ) hj (by simp))
      exact lv_iinc hx hb hd (s_as_has hl) hk9 (by rw [Int32.ofInt_toInt]) hc.1 rfl (fun LS' h9 => kk LS' rfl (s_l_st1 (w := .int (x + v)) rfl h9))
    · cases hs
  · rename_i o heq
    cases heq
    simp only [m_step, m_n] at hs
    split at hs
    · rename_i y x st
      simp only [Option.some.injEq, Sum.inl.injEq, Prod.mk.injEq] at hs
      obtain ⟨rfl, rfl, rfl⟩ := hs
      split at hc <;> (have hd := c_d_dec hc; have hq := c_d_nx hc; subst hq)
      · exact lv_iadd hx hb hd (kk LS rfl hl)
      · exact lv_isub hx hb hd (kk LS rfl hl)
      · exact lv_imul hx hb hd (kk LS rfl hl)
      · exact lv_iand hx hb hd (kk LS rfl hl)
      · exact lv_ior hx hb hd (kk LS rfl hl)
      · exact lv_ixor hx hb hd (kk LS rfl hl)
      · exact lv_ishl hx hb hd (kk LS rfl hl)
      · exact lv_ishr hx hb hd (kk LS rfl hl)
      · refine lv_iushr hx hb hd ?_ (kk LS rfl hl)
        unfold m_bin
        split <;> first | rfl | (exfalso; simp_all; done)
    · cases hs
  · rename_i o heq
    cases heq
    simp only [m_step, m_n] at hs
    split at hs
    · rename_i y x st
      split at hs
      · cases hs
      · rename_i hy
        simp only [Option.some.injEq, Sum.inl.injEq, Prod.mk.injEq] at hs
        obtain ⟨rfl, rfl, rfl⟩ := hs
        split at hc <;> (rename_i ho; have hd := c_d_dec hc; have hq := c_d_nx hc; subst hq)
        · refine lv_idiv hx hb hd hy ?_
          have := kk LS rfl hl
          simp only [ho, if_true] at this
          exact this
        · refine lv_irem hx hb hd hy ?_
          have := kk LS rfl hl
          simp only [ho, if_false] at this
          exact this
    · cases hs
  · rename_i heq
    cases heq
    simp only [m_step, m_n] at hs
    split at hs
    · simp only [Option.some.injEq, Sum.inl.injEq, Prod.mk.injEq] at hs
      obtain ⟨rfl, rfl, rfl⟩ := hs
      have hd := c_d_dec hc; have hq := c_d_nx hc; subst hq
      exact lv_ineg hx hb hd (kk LS rfl hl)
    · cases hs
  · rename_i o heq
    cases heq
    simp only [m_step, m_n] at hs
    split at hs
    · simp only [Option.some.injEq, Sum.inl.injEq, Prod.mk.injEq] at hs
      obtain ⟨rfl, rfl, rfl⟩ := hs
      split at hc <;> (rename_i ho; have hd := c_d_dec hc; have hq := c_d_nx hc; subst hq)
      · refine lv_lor hx hb hd ?_
        have := kk LS rfl hl
        simp only [ho, if_true] at this
        exact this
      · refine lv_lmul hx hb hd ?_
        have := kk LS rfl hl
        simp only [ho, if_false] at this
        exact this
    · cases hs
  · rename_i heq
    cases heq
    simp only [m_step, m_n] at hs
    split at hs
    · simp only [Option.some.injEq, Sum.inl.injEq, Prod.mk.injEq] at hs
      obtain ⟨rfl, rfl, rfl⟩ := hs
      have hd := c_d_dec hc; have hq := c_d_nx hc; subst hq
      exact lv_lshl hx hb hd rfl (kk LS rfl hl)
    · cases hs
  · rename_i heq
    cases heq
    simp only [m_step, m_n] at hs
    split at hs
    · split at hs
      · cases hs
      · rename_i hy
        simp only [Option.some.injEq, Sum.inl.injEq, Prod.mk.injEq] at hs
        obtain ⟨rfl, rfl, rfl⟩ := hs
        have hd := c_d_dec hc; have hq := c_d_nx hc; subst hq
        exact lv_ldiv hx hb hd hy (kk LS rfl hl)
    · cases hs
  · rename_i heq
    cases heq
    simp only [m_step, m_n] at hs
    split at hs
    · simp only [Option.some.injEq, Sum.inl.injEq, Prod.mk.injEq] at hs
      obtain ⟨rfl, rfl, rfl⟩ := hs
      have hd := c_d_dec hc; have hq := c_d_nx hc; subst hq
      exact lv_i2l hx hb hd rfl (kk LS rfl hl)
    · cases hs
  · rename_i heq
    cases heq
    simp only [m_step, m_n] at hs
    split at hs
    · simp only [Option.some.injEq, Sum.inl.injEq, Prod.mk.injEq] at hs
      obtain ⟨rfl, rfl, rfl⟩ := hs
      have hd := c_d_dec hc; have hq := c_d_nx hc; subst hq
      exact lv_l2i hx hb hd rfl (kk LS rfl hl)
    · cases hs
  · rename_i heq
    cases heq
    simp only [m_step, m_n] at hs
    split at hs
    · simp only [Option.some.injEq, Sum.inl.injEq, Prod.mk.injEq] at hs
      obtain ⟨rfl, rfl, rfl⟩ := hs
      have hd := c_d_dec hc; have hq := c_d_nx hc; subst hq
      exact W.lcmp hx hb hd (kk LS rfl hl)
    · cases hs
  · rename_i heq
    cases heq
    simp only [m_step, m_n] at hs
    split at hs
    · simp only [Option.some.injEq, Sum.inl.injEq, Prod.mk.injEq] at hs
      obtain ⟨rfl, rfl, rfl⟩ := hs
      have hd := c_d_dec hc; have hq := c_d_nx hc; subst hq
      exact lv_dup hx hb hd rfl (kk LS rfl hl)
    · simp only [Option.some.injEq, Sum.inl.injEq, Prod.mk.injEq] at hs
      obtain ⟨rfl, rfl, rfl⟩ := hs
      have hd := c_d_dec hc; have hq := c_d_nx hc; subst hq
      exact lv_dup hx hb hd rfl (kk LS rfl hl)
    · cases hs
  · rename_i heq
    cases heq
    simp only [m_step, m_n] at hs
    split at hs
    · simp only [Option.some.injEq, Sum.inl.injEq, Prod.mk.injEq] at hs
      obtain ⟨rfl, rfl, rfl⟩ := hs
      have hd := c_d_dec hc; have hq := c_d_nx hc; subst hq
      exact lv_dup2_11 hx hb hd rfl rfl (kk LS rfl hl)
    · cases hs
  · rename_i heq
    cases heq
    simp only [m_step, m_n] at hs
    split at hs
    · simp only [Option.some.injEq, Sum.inl.injEq, Prod.mk.injEq] at hs
      obtain ⟨rfl, rfl, rfl⟩ := hs
      have hd := c_d_dec hc; have hq := c_d_nx hc; subst hq
      exact lv_pop hx hb hd rfl (kk LS rfl hl)
    · simp only [Option.some.injEq, Sum.inl.injEq, Prod.mk.injEq] at hs
      obtain ⟨rfl, rfl, rfl⟩ := hs
      have hd := c_d_dec hc; have hq := c_d_nx hc; subst hq
      exact lv_pop hx hb hd rfl (kk LS rfl hl)
    · cases hs
  · rename_i cn L heq
    cases heq
    simp only [m_step, m_n, m_j] at hs
    split at hs
    · split at hs
      · cases hs
      · rename_i hcn
        simp only [Option.some.injEq, Sum.inl.injEq, Prod.mk.injEq] at hs
        obtain ⟨rfl, rfl, rfl⟩ := hs
        have hq := c_d_nx hc; subst hq
        exact s_c21 hx hb hc (fun h9 => absurd h9 hcn) (fun _ => kk LS rfl hl)
    · cases hs
  · rename_i cn L heq
    cases heq
    simp only [m_step, m_n, m_j] at hs
    split at hs
    · split at hs
      · cases hs
      · rename_i hcn
        simp only [Option.some.injEq, Sum.inl.injEq, Prod.mk.injEq] at hs
        obtain ⟨rfl, rfl, rfl⟩ := hs
        have hq := c_d_nx hc; subst hq
        exact s_c22 hx hb hc (fun h9 => absurd h9 hcn) (fun _ => kk LS rfl hl)
    · cases hs
  · rename_i heq
    cases heq
    simp [m_step, m_j] at hs
  · cases hc
/-- a jump -/
theorem s_jump (hx : p.tables.exec = Jvm.exec) (hb : c.code = b) {i : MI} {nx : Option Nat} {L : Nat} (hc : c_simple own b nL pc i nx = true)
    (hs : m_step tsw txt mcl dfl i ls st h = some (.inr (.inl (L, ls', st', h')))) :
    ls' = ls ∧ h' = h ∧ (W p l e R s m args below meth c H locs cells slots Q (F0 m L LS (st'.map (s_v σ))) → W p l e R s m args below meth c H locs cells slots Q (F0 m pc LS (st.map (s_v σ)))) := by
  obtain ⟨o, a1, a2, a3, v⟩ := i
  unfold c_simple at hc
  split at hc <;> first | (cases hc; done) | (rename_i heq; cases heq; simp only [m_step, m_n, m_j] at hs)
  all_goals try (cases hs; done)
  all_goals try (split at hs <;> cases hs; done)
  all_goals try (split at hs <;> first | (cases hs; done) | (split at hs <;> cases hs; done))
  · split at hs
    · split at hs
      · rename_i hcn
        simp only [Option.some.injEq, Sum.inr.injEq, Sum.inl.injEq, Prod.mk.injEq] at hs
        obtain ⟨rfl, rfl, rfl, rfl⟩ := hs
        exact ⟨rfl, rfl, fun kk => s_c21 hx hb hc (fun _ => kk) (fun h9 => absurd hcn (by rw [h9]; decide))⟩
      · cases hs
    · cases hs
  · split at hs
    · split at hs
      · rename_i hcn
        simp only [Option.some.injEq, Sum.inr.injEq, Sum.inl.injEq, Prod.mk.injEq] at hs
        obtain ⟨rfl, rfl, rfl, rfl⟩ := hs
        exact ⟨rfl, rfl, fun kk => s_c22 hx hb hc (fun _ => kk) (fun h9 => absurd hcn (by rw [h9]; decide))⟩
      · cases hs
    · cases hs
  · simp only [Option.some.injEq, Sum.inr.injEq, Sum.inl.injEq, Prod.mk.injEq] at hs
    obtain ⟨rfl, rfl, rfl, rfl⟩ := hs
    exact ⟨rfl, rfl, fun kk => lv_goto hx hb (of_decide_eq_true hc) (c_o_eq pc _) kk⟩
/-- it neither ends nor calls -/
theorem s_simple_not {i : MI} {nx : Option Nat} (hc : c_simple own b nL pc i nx = true) : (∀ r, m_step tsw txt mcl dfl i ls st h ≠ some (.inr (.inr r))) := by
  intro r hs
  obtain ⟨o, a1, a2, a3, v⟩ := i
  unfold c_simple at hc
  split at hc <;> first | (cases hc; done) | (rename_i heq; cases heq; simp only [m_step, m_n, m_j] at hs)
  all_goals try (cases hs; done)
  all_goals try (split at hs <;> cases hs; done)
  all_goals try (split at hs <;> first | (cases hs; done) | (split at hs <;> cases hs; done))
end Ops
