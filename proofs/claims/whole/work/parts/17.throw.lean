/-! THROWS AND THEIR CATCHING -/
abbrev x_names : List String := ["java/lang/RuntimeException", "java/lang/Exception"]
section Y13
variable {p : Program} {l : Launch} {e : Env} {R : Room} {s : State} {m : MethodId} {args : Array Value} {below : List Frame} {meth : Method} {c : Code} {H : Heap} {locs : List Loc} {cells slots : Nat}
variable {free : Addr → Prop} {ls : Array Slot} {rest : List Value} {Qc : Array Value → State → Outcome → State → Prop} {XC : String → State → State → Prop}
def y_atS (own : String) (ic : Nat) (X Y : String) (idx : Nat) (bytes : ByteArray) (names : List String) : List Cond := (y_atoms own ic X Y idx bytes names).filter vx_no
theorem y_throw {cc : ByteArray} {pc : Nat} (hexec : p.tables.exec = Jvm.exec) (hb : c.code = cc) (hl : l.stackTraces = false) {own cls sup text : String} {names : List String} {ik is ic idx mc ms sa : Nat} {bytes : ByteArray} {A : Nat → Prop}
    (hown : s.vm.findClass own = some m.cls) (hcls : Bundle.fit cls = true) (hsup9 : Bundle.fit sup = true) (hnames : ∀ n ∈ names, Bundle.fit n = true)
    (b0 : decode bytes 0 = .ok (.aload_n 0, 1)) (b1 : decode bytes 1 = .ok (.aload_n 1, 1)) (b2 : decode bytes 2 = .ok (.invokespecial idx, 3)) (b5 : decode bytes 5 = .ok (.return_, 1))
    (hk : (Cond.classLink own ik cls).before args s = true) (hini : (Cond.initialized cls).before args s = true) (hstr : vk_R own is text sa s) (hat : ∀ w ∈ y_atS own ic cls sup idx bytes names, w.before args s = true)
    (hgood : ∀ w ∈ Cond.classLink own ik cls :: Cond.initialized cls :: y_atS own ic cls sup idx bytes names, vx_ot w = true)
    (hU : vx_Zq Bundle.tN "UNASSIGNED_STACK" Bundle.steD A s s.heap) (hN : vx_Zq Bundle.tN "SUPPRESSED_SENTINEL" Bundle.listD A s s.heap) (hS : va_S A s.heap H locs) (hsize : ls.size = c.maxLocals)
    (d0 : decode cc pc = .ok (.new ik, 3)) (d3 : decode cc (pc + 3) = .ok (.dup, 1)) (d4 : decode cc (pc + 4) = .ok (.ldc_w is, 3)) (d7 : decode cc (pc + 7) = .ok (.invokespecial ic, 3)) (d10 : decode cc (pc + 10) = .ok (.athrow, 1))
    (hout : ∀ x ∈ c.exceptionTable.toList, covers x (pc + 10) = false)
    (hRframes : names.length + 1 + 3 < R.frames) (hRlocals : (rest.map fun v => v.category).sum + (13 * (names.length + 1 + 1) + 43) ≤ R.locals) (hRcells : cells + 1 ≤ R.cells) (hRslots : slots + 6 ≤ R.slots) (hlocks : meth.locks = false)
    (hx : ∀ t : State, s.vm.Alike t.vm → H.size ≤ t.heap.size → (∀ q : Nat, q < H.size → t.heap[q]? = H[q]?) → XC cls s t)
    (hf : ∀ z ∈ locs, free z.base) (hc : cells + 1 ≤ mc) (hs : slots + 6 ≤ ms) :
    W p l e R s m args below meth c H locs cells slots (vx_MQ below Qc XC args s mc ms free) (F0 m pc ls rest) := by
  intro T hT X
  have htr : e.platform.stackTraces = false := (show e.platform.stackTraces = l.stackTraces by rw [X.admits.platform]).trans hl
  have Y := vx_rebase X (R' := { frames := R.frames, locals := R.locals, cells := 1, slots := 6 }) (Nat.le_refl _) (Nat.le_refl _) hRcells hRslots
  obtain ⟨s', hA⟩ : ∃ z, z = (T.setVm s.vm).setFrames (.invoking m args :: below) := ⟨_, rfl⟩
  rw [← hA] at Y
  have hvm : s'.vm = s.vm := by rw [hA]; rfl
  have hhp : s'.heap = H := by rw [hA]; exact hT
  have hW0 : s.WarmedH s'.vm := by rw [hvm]; exact State.WarmedH.refl s
  have hat' : ∀ w ∈ y_atS own ic cls sup idx bytes names, w.before args s' = true := fun w hw => vx_ot_at hW0 hvm.symm (hgood w (List.mem_cons_of_mem _ (List.mem_cons_of_mem _ hw))) (hat w hw)
  have hk' : (Cond.classLink own ik cls).before args s' = true := vx_ot_at hW0 hvm.symm (hgood _ List.mem_cons_self) hk
  have hini' : (Cond.initialized cls).before args s' = true := vx_ot_at hW0 hvm.symm (hgood _ (List.mem_cons_of_mem _ List.mem_cons_self)) hini
  have hU' : vx_Zq Bundle.tN "UNASSIGNED_STACK" Bundle.steD A s' s'.heap := by rw [hhp]; exact vx_Zq.moved hW0.alike (hU.kept hS.2.1)
  have hN' : vx_Zq Bundle.tN "SUPPRESSED_SENTINEL" Bundle.listD A s' s'.heap := by rw [hhp]; exact vx_Zq.moved hW0.alike (hN.kept hS.2.1)
  have h : ∀ w ∈ y_atoms own ic cls sup idx bytes names, w.before args s' = true := vx_own hat' (vx_isRefq hU'.1) (vx_isRefq hN'.1) hU'.2.word hN'.2.word
  have hown' : s'.vm.findClass own = some m.cls := by rw [hvm]; exact hown
  have hins : (Cond.instantiable cls 6).before args s' = true := h _ (by simp [y_atoms, y_rest])
  obtain ⟨vm₁, cX, kX, hfX, hkX, -, -, X₁, st1⟩ := Y.newCold hexec (own := own) (C := cls) (index := ik) (n := 6) hown' hk' hins hini'
    (g := F0 m pc ls rest) rfl (by rw [hb]; exact d0) (Nat.le_refl _) (Nat.le_refl _)
  generalize hT1 : (T.setVm vm₁).pushCell { cls := cX, slots := kX.instanceTypes.map defaultValue, vm := .none } = T1 at X₁ st1
  have hcat : (Value.ref T.heap.size).category = 1 := rfl
  have hcellA : T1.heap[T.heap.size]? = some (freshCell cX kX) := by rw [← hT1]; exact State.heap_pushCell_size _ _
  have d3' : decode c.code (pc + 3) = .ok (.dup, 1) := by rw [hb]; exact d3
  have d4' : decode c.code (pc + 4) = .ok (.ldc_w is, 3) := by rw [hb]; exact d4
  have hstr' : vk_R own is text sa s' := vk_R.warm hW0 hstr
  obtain ⟨U, hsteps, hrun, hend, hW, hsame, ce, hce, hO1, hO2⟩ := y_ctor X₁ hexec htr (own := own) (cls := cls) (sup := sup) (names := names) (ic := ic) hown' hcls hsup9 hnames b0 b1 b2 b5 h (fun x hx => nomatch hx) hfX hkX hcellA (by rw [hhp, hT]; exact Nat.le_refl _) (msg := .ref sa) rfl
    (g := { method := m, pc := pc + 7, locals := ls, stack := .ref sa :: .ref T.heap.size :: .ref T.heap.size :: rest, locked := none }) rfl hsize rfl rfl (rest := rest) rfl
    (by rw [hb]; exact d7) (by rw [hb]; exact d10) hout hRframes (by simp only [List.map_cons, List.sum_cons, hcat]; omega) hlocks
  obtain ⟨f1, f2⟩ := vx_frame hsame
  rw [hhp] at f1 f2
  have hWs : s.WarmedH U.vm := State.WarmedH.trans hW0 hW
  have hcl : s.vm.findClass cls = some ce.cls := by
    rw [hvm] at hO1
    exact hO1
  have hall : s.sameButNew ({ U with vm := s.vm } : State) locs mc ms := by
    subst hA
    obtain ⟨e1, e2⟩ := hsame
    rw [State.setFrames_setFrames] at e1
    have h2 : (T.setVm s.vm).sameButNew ({ U with vm := s.vm } : State) [] (0 + 1) (0 + 6) := ⟨e1, e2⟩
    have h3 := X.same.trans h2
    rw [List.append_nil] at h3
    exact h3.mono hc hs
  refine ⟨U, ?_, .threw T.heap.size, hrun, hend, Or.inr ⟨T.heap.size, rfl, cls, ce, locs, hx U hWs.alike f1 (fun q hq => f2 q hq (fun z hz => nomatch hz)), hce, hO2, hcl, hWs, hall, hf⟩⟩
  refine st1 _ ?_
  show Steps p.tables e below (T1.setTop { method := m, pc := pc + 3, locals := ls, stack := .ref T.heap.size :: rest, locked := none }) _
  jvm_step X₁.here [X₁.here.top, hexec, d3', Value.category]
  exact X₁.ldcStringW hexec (own := own) (text := text) (index := is) (a := sa) hown' hstr'.1 hstr'.2
    (g := { method := m, pc := pc + 4, locals := ls, stack := .ref T.heap.size :: .ref T.heap.size :: rest, locked := none }) rfl d4' _ hsteps
end Y13
def y_bytes : ByteArray := prog_31_method_4_code
theorem y_b : decode y_bytes 0 = .ok (.aload_n 0, 1) ∧ decode y_bytes 1 = .ok (.aload_n 1, 1) ∧ decode y_bytes 2 = .ok (.invokespecial 13, 3) ∧ decode y_bytes 5 = .ok (.return_, 1) := by decide +kernel
/-- the words that a throw of E needs -/
def x_w (E : Nat) : List Cond := if E = 0 then y_atS RX10 (x_k 0).2.2.1 (x_n 0) "java/lang/RuntimeException" 13 y_bytes ["java/lang/Exception"] else vx_atS RX10 (x_k E).2.2.1 (x_n E) x_names
def x_ok (E : Nat) : Bool := (x_w E).all (fun w => decide (w ∈ lw_tbl) && (goodWord w || c_nw w) && vx_ot w) && decide (Cond.classLink RX10 (x_k E).1 (x_n E) ∈ lw_tbl) && decide (Cond.initialized (x_n E) ∈ lw_tbl) && Bundle.fit (x_n E) && (match P_st[(x_k E).2.2.2]? with
  | some q => decide (q.1 = RX10) && decide (q.2.1 = (x_k E).2.1)
  | none => false)
theorem x_ok_0 : x_ok 0 = true := by decide +kernel
theorem x_ok_1 : x_ok 1 = true := by decide +kernel
theorem x_ok_2 : x_ok 2 = true := by decide +kernel
theorem x_names_ok : ∀ n ∈ x_names, Bundle.fit n = true := by decide +kernel
theorem x_ok_all {E : Nat} (h : E < 3) : x_ok E = true := by
  match E, h with
  | 0, _ => exact x_ok_0
  | 1, _ => exact x_ok_1
  | 2, _ => exact x_ok_2
theorem x_links : (Cond.classLink RL 25 (x_n 0) ∈ GT ∧ Cond.classLink RL 13 (x_n 1) ∈ GT ∧ Cond.classLink RL 53 (x_n 2) ∈ GT) ∧ Cond.castable (x_n 0) (x_n 0) ∈ NW ∧ Cond.castable (x_n 1) (x_n 1) ∈ NW ∧ Cond.castable (x_n 2) (x_n 2) ∈ NW := by
  refine ⟨⟨?_, ?_, ?_⟩, ?_, ?_, ?_⟩ <;> exact List.mem_filter.mpr ⟨by decide +kernel, rfl⟩
section Thr
variable {p : Program} {l : Launch} {e : Env} {R : Room} {s : State} {m : MethodId} {args : Array Value} {below : List Frame} {meth : Method} {c : Code} {H : Heap} {locs : List Loc} {cells slots : Nat} {Q : State → Prop}
variable {nL pc q : Nat} {LS : Array Slot} {ls st ls' st' : List Value} {h h' : MHp}
variable {dC : Nat → ClassId} {dI : Nat → Nat → Nat} {dA : Nat → ClassId} {B0 : Nat} {σ : Nat → Nat} {scr : Nat × (Nat → Int32)} {c0 s0 : Nat}
theorem s_throw {k E mc ms : Nat} {Qc : Array Value → State → Outcome → State → Prop} {XC : String → State → State → Prop} (X0 : s_ctx k p l R s m args meth c) (hE : s_E dC dI dA B0 σ scr P_st P_txt s) (hl : LS.size = P_mxl k) (hc : c_thr k pc E = true)
    (hS : s_S dC dI dA B0 σ scr c0 s0 s.heap h H locs cells slots) (hR : cells + 1 ≤ R.cells ∧ slots + 6 ≤ R.slots) (hmc : cells + 1 ≤ mc) (hms : slots + 6 ≤ ms)
    (hx : ∀ t : State, s_post dC dI dA B0 σ scr (h.1, h.2.1, h.2.2.1 + 1, h.2.2.2) s t → XC (x_n E) s t) : W p l e R s m args below meth c H locs cells slots (vx_MQ below Qc XC args s mc ms (s_A B0)) (F0 m pc LS []) := by
  obtain ⟨hx0, hb, hml, hown, hts, hlocks, hrt, hin, hRf, hRl, hex, hst⟩ := X0
  simp only [c_thr, Bool.and_eq_true, decide_eq_true_eq] at hc
  obtain ⟨⟨⟨⟨⟨⟨⟨⟨⟨t0, t1⟩, t2⟩, d0⟩, d3⟩, d4⟩, d7⟩, d10⟩, r1⟩, r2⟩ := hc
  have hok := x_ok_all t0
  simp only [x_ok, Bool.and_eq_true, decide_eq_true_eq, List.all_eq_true, Bool.or_eq_true] at hok
  obtain ⟨⟨⟨⟨o1, o2⟩, o3⟩, o4⟩, o5⟩ := hok
  rw [t1] at hown
  split at o5
  · rename_i q9 hq9
    simp only [Bool.and_eq_true, decide_eq_true_eq] at o5
    have hr := (hE.2.2.2.2.2.2.1 _ q9 hq9).1
    rw [o5.1, o5.2] at hr
    have hat : ∀ w ∈ x_w E, w.before args s = true := by
      intro w hw
      obtain ⟨⟨w1, w2⟩, w3⟩ := o1 w hw
      rcases w2 with w2 | w2
      · exact hts w (List.mem_filter.mpr ⟨w1, w2⟩)
      · have h9 := hE.2.2.2.2.2.2.2.2.2.1 w (List.mem_filter.mpr ⟨w1, w2⟩)
        have hot : w.onTables = true := by cases w <;> first | rfl | (cases w2; done)
        exact va_Nw.use hot h9
    have hgood : ∀ w ∈ Cond.classLink RX10 (x_k E).1 (x_n E) :: Cond.initialized (x_n E) :: x_w E, vx_ot w = true := by
      intro w hw
      rcases List.mem_cons.mp hw with rfl | hw
      · rfl
      · rcases List.mem_cons.mp hw with rfl | hw
        · rfl
        · exact (o1 w hw).2
    have hout : ∀ x ∈ c.exceptionTable.toList, covers x (pc + 10) = false := by
      intro x hx9
      rw [hex, t2] at hx9
      cases hx9
    have hXC : ∀ t : State, s.vm.Alike t.vm → H.size ≤ t.heap.size → (∀ q : Nat, q < H.size → t.heap[q]? = H[q]?) → XC (x_n E) s t := by
      intro t ht hz hk
      refine hx t ?_
      obtain ⟨hP, hVS, -, hle, -, -, hscr⟩ := hS
      refine ⟨hP.kept (fun k9 q8 hq8 => hk _ ((hP k9 q8 hq8).lt)), ⟨Nat.le_trans hVS.1 hz, fun q8 h8 hn8 => ?_⟩, hle, hscr⟩
      rw [hk q8 (Nat.lt_of_lt_of_le h8 hVS.1)]
      exact hVS.2.1 q8 h8 hn8
    by_cases hE0 : E = 0
    · subst hE0
      simp only [x_w, if_true] at hat hgood
      exact y_throw (own := RX10) (cls := x_n 0) (sup := "java/lang/RuntimeException") (names := ["java/lang/Exception"]) (bytes := y_bytes) (A := s_A B0) (sa := σ (mK + (x_k 0).2.2.2)) hx0 hb hst hown o4 (by decide +kernel) (by decide +kernel) y_b.1 y_b.2.1 y_b.2.2.1 y_b.2.2.2 (hts _ (List.mem_filter.mpr ⟨o2, rfl⟩)) (hts _ (List.mem_filter.mpr ⟨o3, rfl⟩)) hr hat hgood hE.2.2.2.2.2.2.2.1 hE.2.2.2.2.2.2.2.2.1 hS.2.1 (hl.trans hml.symm) d0 d3 d4 d7 d10 hout (by show 1 + 1 + 3 < R.frames; omega) (by show 0 + (13 * (1 + 1 + 1) + 43) ≤ R.locals; omega) hR.1 hR.2 hlocks hXC hS.2.1.2.2 hmc hms
    · simp only [x_w, hE0, if_false] at hat hgood
      exact vx_throwSW (own := RX10) (cls := x_n E) (names := x_names) (A := s_A B0) (sa := σ (mK + (x_k E).2.2.2)) hx0 hb hst hown o4 x_names_ok (hts _ (List.mem_filter.mpr ⟨o2, rfl⟩)) (hts _ (List.mem_filter.mpr ⟨o3, rfl⟩)) hr hat hgood hE.2.2.2.2.2.2.2.1 hE.2.2.2.2.2.2.2.2.1 hS.2.1 (hl.trans hml.symm) d0 d3 d4 d7 d10 hout (by show 2 + 3 < R.frames; omega) (by show 0 + (13 * (2 + 1) + 43) ≤ R.locals; omega) hR.1 hR.2 hlocks hXC hS.2.1.2.2 hmc hms
  · cases o5
/-- the handler that takes it -/
theorem x_h_spec {k E : Nat} {w : Int32} : ∀ (hh : List (Nat × Nat × Nat × Nat)) (w0 : Int32), x_h E pc hh w0 = some (some w) → c_hnd k hh w0 = true → ∃ (pre : List (Nat × Nat × Nat × Nat)) (a b hp ct : Nat) (suf : List (Nat × Nat × Nat × Nat)), hh = pre ++ (a, b, hp, ct) :: suf ∧ a ≤ pc ∧ pc < b ∧ x_e ct = E ∧ (∀ z ∈ pre, x_e z.2.2.2 < E) ∧ E < 3 ∧
      ((∃ j : Fin 4, decode (P_mby k) hp = .ok (.astore_n j, 1) ∧ (j : Nat) < P_mxl k ∧ decode (P_mby k) (hp + 1) = .ok (.iconst w.toInt, 1) ∧ decode (P_mby k) (hp + 1 + 1) = .ok (.ireturn, 1)) ∨ (∃ j : Nat, decode (P_mby k) hp = .ok (.astore j, 2) ∧ j < P_mxl k ∧ decode (P_mby k) (hp + 2) = .ok (.iconst w.toInt, 1) ∧ decode (P_mby k) (hp + 2 + 1) = .ok (.ireturn, 1))) := by
  intro hh
  induction hh with
  | nil => intro w0 h1; cases h1
  | cons x t ih =>
    obtain ⟨a, b, hp, ct⟩ := x
    intro w0 h1 h2
    simp only [c_hnd, Bool.and_eq_true, decide_eq_true_eq] at h2
    obtain ⟨⟨h3, h4⟩, h5⟩ := h2
    unfold x_h at h1
    split at h1
    · rename_i hab
      split at h1
      · rename_i he
        cases h1
        refine ⟨[], a, b, hp, ct, t, rfl, hab.1, hab.2, he, (fun z hz => by cases hz), (by rw [← he]; exact h3), ?_⟩
        split at h4
        · rename_i j hd
          simp only [Bool.and_eq_true, decide_eq_true_eq] at h4
          exact Or.inl ⟨j, hd, h4.1.1, h4.1.2, h4.2⟩
        · rename_i j hd
          simp only [Bool.and_eq_true, decide_eq_true_eq] at h4
          exact Or.inr ⟨j, hd, h4.1.1, h4.1.2, h4.2⟩
        · cases h4
      · split at h1
        · rename_i hlt
          obtain ⟨pre, a', b', hp', ct', suf, e1, e2, e3, e4, e5, e6, e7⟩ := ih (w0 + 1) h1 h5
          refine ⟨(a, b, hp, ct) :: pre, a', b', hp', ct', suf, by rw [e1]; rfl, e2, e3, e4, fun z hz => ?_, e6, e7⟩
          rcases List.mem_cons.mp hz with rfl | hz
          · exact hlt
          · exact e5 z hz
        · cases h1
    · cases h1
theorem x_e_cases {ct : Nat} (h : x_e ct < 3) : (ct = 25 ∧ x_e ct = 0) ∨ (ct = 13 ∧ x_e ct = 1) ∨ (ct = 53 ∧ x_e ct = 2) := by
  unfold x_e at h ⊢
  split at h
  · rename_i e; exact Or.inl ⟨e, by simp [e]⟩
  · split at h
    · rename_i e; exact Or.inr (Or.inl ⟨e, by simp [e]⟩)
    · split at h
      · rename_i e; exact Or.inr (Or.inr ⟨e, by simp [e]⟩)
      · omega
theorem x_link {ct : Nat} (h : x_e ct < 3) : ct ≠ 0 ∧ Cond.classLink RL ct (x_n (x_e ct)) ∈ GT := by
  rcases x_e_cases h with ⟨rfl, e⟩ | ⟨rfl, e⟩ | ⟨rfl, e⟩
  · exact ⟨by decide, x_links.1.1⟩
  · exact ⟨by decide, x_links.1.2.1⟩
  · exact ⟨by decide, x_links.1.2.2⟩
theorem x_cast {E : Nat} (h : E < 3) : Cond.castable (x_n E) (x_n E) ∈ NW := by
  match E, h with
  | 0, _ => exact x_links.2.1
  | 1, _ => exact x_links.2.2.1
  | 2, _ => exact x_links.2.2.2
theorem x_nc {E F : Nat} (hE : s_E dC dI dA B0 σ scr P_st P_txt s) (h : F < E) (h3 : E < 3) : va_Nc (x_n E) (x_n F) s := by
  obtain ⟨n1, n2, n3⟩ := hE.2.2.2.2.2.2.2.2.2.2.2.2
  match E, F, h, h3 with
  | 1, 0, _, _ => exact n1
  | 2, 0, _, _ => exact n2
  | 2, 1, _, _ => exact n3
theorem s_catch {k E : Nat} {w : Int32} {ce : Cell} {q9 : Addr} {Qc : Array Value → State → Outcome → State → Prop} {XC : String → State → State → Prop} {rest : List Value} (hk : k + 1 < NM) (X0 : s_ctx k p l R s m args meth c) (hE : s_E dC dI dA B0 σ scr P_st P_txt s) (hl : s_l σ ls LS (P_mxl k)) (hh : P_hnd k pc E = some (some w))
    (hcell : H[q9]? = some ce) (hv : ce.vm = .none) (hcl : s.vm.findClass (x_n E) = some ce.cls)
    (hq : ∀ t : State, t.heap = H → s.WarmedH t.vm → Qc args s (.returned (some (.int w))) t) (hf : ∀ q ∈ locs, s_A B0 q.base) : vx_W p l e R s m args below meth c H locs cells slots (vx_MQ below Qc XC args s cells slots (s_A B0)) (F0 m pc LS rest) q9 := by
  obtain ⟨hx0, hb, hml, hown, hts, hlocks, hrt, hin, hRf, hRl, hex, hst⟩ := X0
  unfold P_hnd at hh
  split at hh
  · cases hh
  · split at hh
    · cases hh
    · rename_i hne
      have hne : P_hh k ≠ [] := fun e => hne e
      obtain ⟨-, -, -, -, -, -, -, -, m9⟩ := c_met_spec hk
      obtain ⟨m1, m2, m3⟩ := m9 hne
      obtain ⟨pre, a, b, hp, ct, suf, e1, e2, e3, e4, e5, e6, e7⟩ := x_h_spec (P_hh k) 1 hh m3
      rw [m1] at hown
      rw [m2] at hrt
      subst e4
      have hlk := x_link (ct := ct) e6
      refine vx_catch (own := RL) (name := x_n (x_e ct)) (E := x_n (x_e ct)) hown (tableOf pre) ⟨a, b, hp, ct⟩ (tableOf suf) ?_ ?_ ?_ hlk.1 (hts _ hlk.2) (va_Nw.use rfl (hE.2.2.2.2.2.2.2.2.2.1 _ (x_cast e6))) hcell hv hcl ?_
      · rw [hex, e1]
        simp [tableOf]
      · intro z hz
        obtain ⟨z0, hz0, rfl⟩ := List.mem_map.mp hz
        have h9 := e5 z0 hz0
        have hlk2 := x_link (ct := z0.2.2.2) (by omega)
        exact Or.inr ⟨hlk2.1, _, hts _ hlk2.2, x_nc hE h9 e6⟩
      · simp [covers, e2, e3]
      · rcases e7 with ⟨j, d0, hj, d1, d2⟩ | ⟨j, d0, hj, d1, d2⟩
        · refine lv_astore_n hx0 hb d0 rfl (s_as_has hl) hj rfl (fun LS' h9 => ?_)
          refine lv_iconst hx0 hb d1 (Int32.ofInt_toInt w) ?_
          exact vx_ret (W.iret hx0 hb hrt hq hf d2 hlocks)
        · refine lv_astore hx0 hb d0 (s_as_has hl) hj rfl (fun LS' h9 => ?_)
          refine lv_iconst hx0 hb d1 (Int32.ofInt_toInt w) ?_
          exact vx_ret (W.iret hx0 hb hrt hq hf d2 hlocks)
end Thr
