/-! THE WALK: a run of the small machine, step by step, is a run of the machine -/
section Main
variable {p : Program} {l : Launch} {e : Env} {R : Room} {s : State} {m : MethodId} {args : Array Value} {below : List Frame} {meth : Method} {c : Code} {H : Heap} {locs : List Loc} {cells slots : Nat} {Q : State → Prop}
variable {pc q : Nat} {LS : Array Slot} {ls st ls' st' : List Value} {h h1 : MHp}
variable {dC : Nat → ClassId} {dI : Nat → Nat → Nat} {dA : Nat → ClassId} {B0 : Nat} {σ : Nat → Nat} {scr : Nat × (Nat → Int32)} {c0 s0 : Nat}
theorem c_ret_not {b : ByteArray} {rt : Option FieldType} {i : MI} (hc : c_ret b rt pc i = true) : (∀ x, P_step i ls st h ≠ some (.inl x)) ∧ (∀ x, P_step i ls st h ≠ some (.inr (.inl x))) ∧ (∀ x, P_step i ls st h ≠ some (.inr (.inr (.inr x)))) ∧ (∀ r h', P_step i ls st h = some (.inr (.inr (.inl (r, h')))) → h' = h ∧ ∃ v, r = .inl v) := by
  obtain ⟨o, a1, a2, a3, v⟩ := i
  unfold c_ret at hc
  refine ⟨fun x hs => ?_, fun x hs => ?_, fun x hs => ?_, fun r h' hs => ?_⟩ <;>
  (split at hc <;> first
    | (cases hc; done)
    | (rename_i heq; cases heq; simp only [P_step, m_step, m_d] at hs; repeat' split at hs
       all_goals first | (cases hs; done) | (cases hs; exact ⟨rfl, _, rfl⟩)))
theorem c_call_not {k : Nat} {i : MI} {nx : Option Nat} (hc : c_call k pc i nx = true) {a : MAct} (hs : P_step i ls st h = some a) : ∃ x, a = .inr (.inr (.inr x)) := by
  obtain ⟨o, a1, a2, a3, v⟩ := i
  have key : P_step (o, a1, a2, a3, v) ls st h = m_call P_mcl (o, a1, a2, a3, v) st h := by
    unfold c_call at hc
    split at hc <;> first | (cases hc; done) | (rename_i heq; cases heq; rfl)
  rw [key] at hs
  obtain ⟨y, as, rest, rfl⟩ := m_call_k P_mcl hs
  exact ⟨_, rfl⟩
theorem c_d_nx9 {b : ByteArray} {ins : Instr} {len : Nat} {nx : Option Nat} (h : c_d b pc ins len nx = true) : ∀ q, nx = some q → q = pc + len := fun q e => by subst e; exact c_d_nx h
theorem c_call_y {k : Nat} {i : MI} {nx : Option Nat} (hc : c_call k pc i nx = true) {y : Nat} {as rest : List Value} (hs : P_step i ls st h = some (.inr (.inr (.inr (y, as, rest))))) : y + 1 < NM ∧ ∀ q, nx = some q → q = pc + 3 := by
  obtain ⟨o, a1, a2, a3, v⟩ := i
  unfold c_call at hc
  split at hc
  · rename_i y9 n pl heq
    cases heq
    simp only [Bool.and_eq_true, decide_eq_true_eq, c_room] at hc
    obtain ⟨⟨⟨⟨⟨⟨⟨⟨r1a, r1b⟩, r1c⟩, r1d⟩, hkd⟩, hh0⟩, hlk⟩, hm1⟩, hm2⟩ := hc
    have e1 : P_step (40, a1, a2, a3, v) ls st h = m_call P_mcl (40, a1, a2, a3, v) st h := rfl
    rw [e1] at hs
    simp only [m_call, m_k] at hs
    refine ⟨?_, ?_⟩
    · repeat' split at hs
      all_goals first | (cases hs; done) | (cases hs; exact r1a)
    · split at hlk
      · exact c_d_nx9 hlk
      · cases hlk
  · rename_i y9 n pl heq
    cases heq
    simp only [Bool.and_eq_true, decide_eq_true_eq, c_room] at hc
    obtain ⟨⟨⟨⟨⟨r1a, r1b⟩, r1c⟩, r1d⟩, hkd⟩, hlk⟩ := hc
    have e1 : P_step (41, a1, a2, a3, v) ls st h = m_call P_mcl (41, a1, a2, a3, v) st h := rfl
    rw [e1] at hs
    simp only [m_call, m_k] at hs
    refine ⟨?_, ?_⟩
    · repeat' split at hs
      all_goals first | (cases hs; done) | (cases hs; exact r1a)
    · split at hlk
      · exact c_d_nx9 hlk
      · cases hlk
  · rename_i y9 n pl heq
    cases heq
    simp only [Bool.and_eq_true, Bool.or_eq_true, decide_eq_true_eq, c_room] at hc
    obtain ⟨⟨⟨⟨⟨⟨⟨⟨⟨r1a, r1b⟩, r1c⟩, r1d⟩, hkd⟩, hh0⟩, hrn⟩, hini⟩, hik⟩, hlk⟩ := hc
    have e1 : P_step (42, a1, a2, a3, v) ls st h = m_call P_mcl (42, a1, a2, a3, v) st h := rfl
    rw [e1] at hs
    simp only [m_call, m_k] at hs
    refine ⟨?_, ?_⟩
    · repeat' split at hs
      all_goals first | (cases hs; done) | (cases hs; exact r1a)
    · split at hlk
      · exact c_d_nx9 hlk
      · cases hlk
  · rename_i y9 n pl heq
    cases heq
    simp only [Bool.and_eq_true, Bool.or_eq_true, decide_eq_true_eq, c_room] at hc
    obtain ⟨⟨⟨⟨⟨⟨⟨⟨⟨r1a, r1b⟩, r1c⟩, r1d⟩, hkd⟩, hh0⟩, hrn⟩, hini⟩, hik⟩, hlk⟩ := hc
    have e1 : P_step (43, a1, a2, a3, v) ls st h = m_call P_mcl (43, a1, a2, a3, v) st h := rfl
    rw [e1] at hs
    simp only [m_call, m_k] at hs
    refine ⟨?_, ?_⟩
    · repeat' split at hs
      all_goals first | (cases hs; done) | (cases hs; exact r1a)
    · split at hlk
      · exact c_d_nx9 hlk
      · cases hlk
  · cases hc
theorem c_heap_not {on : Nat} {ini : Bool} {b : ByteArray} {i : MI} {nx : Option Nat} (hc : c_heap on ini b pc i nx = true) {a : MAct} (hs : P_step i ls st h = some a) : ∃ x, a = .inl x := by
  obtain ⟨o, a1, a2, a3, v⟩ := i
  have key : P_step (o, a1, a2, a3, v) ls st h = m_arr (o, a1, a2, a3, v) ls st h ∨ P_step (o, a1, a2, a3, v) ls st h = m_obj k_dfl (o, a1, a2, a3, v) ls st h := by
    unfold c_heap at hc
    split at hc <;> first | (cases hc; done) | (rename_i heq; cases heq; exact Or.inl rfl) | (rename_i heq; cases heq; exact Or.inr rfl)
  rcases a with x | x
  · exact ⟨x, rfl⟩
  · rcases key with key | key
    · rw [key] at hs; exact absurd hs m_arr_k
    · rw [key] at hs; exact absurd hs (m_obj_k k_dfl)
theorem c_make_not {own : String} {b : ByteArray} {i : MI} {nx : Option Nat} (hc : c_make own b pc i nx = true) {a : MAct} (hs : P_step i ls st h = some a) : ∃ x, a = .inl x := by
  obtain ⟨o, a1, a2, a3, v⟩ := i
  have key : P_step (o, a1, a2, a3, v) ls st h = m_obj k_dfl (o, a1, a2, a3, v) ls st h := by
    unfold c_make at hc
    split at hc <;> first | (cases hc; done) | (rename_i heq; cases heq; rfl)
  rcases a with x | x
  · exact ⟨x, rfl⟩
  · rw [key] at hs; exact absurd hs (m_obj_k k_dfl)
theorem c_lib_not {own : String} {b : ByteArray} {i : MI} {nx : Option Nat} (hc : c_lib own b P_st pc i nx = true) {a : MAct} (hs : P_step i ls st h = some a) : ∃ x, a = .inl x := by
  obtain ⟨o, a1, a2, a3, v⟩ := i
  have key : P_step (o, a1, a2, a3, v) ls st h = m_lib P_txt (o, a1, a2, a3, v) ls st h := by
    unfold c_lib at hc
    split at hc <;> first | (cases hc; done) | (rename_i heq; cases heq; rfl)
  rcases a with x | x
  · exact ⟨x, rfl⟩
  · rw [key] at hs; exact absurd hs (m_lib_k P_txt)
theorem c_strop_not {k : Nat} {i : MI} {nx : Option Nat} (hc : c_strop k pc i nx = true) {a : MAct} (hs : P_step i ls st h = some a) : ∃ x, a = .inl x := by
  obtain ⟨o, a1, a2, a3, v⟩ := i
  have key : P_step (o, a1, a2, a3, v) ls st h = m_lib P_txt (o, a1, a2, a3, v) ls st h := by
    unfold c_strop at hc
    split at hc <;> first | (cases hc; done) | (rename_i heq; cases heq; rfl)
  rcases a with x | x
  · exact ⟨x, rfl⟩
  · rw [key] at hs; exact absurd hs (m_lib_k P_txt)
/-- an instruction by its kind -/
theorem c_ins_cases {k : Nat} {i : MI} {nx : Option Nat} (hc : c_ins k pc i nx = true) :
    (∃ j a b v, i = (24, j, a, b, v) ∧ c_sw (P_mby k) pc (P_tsw j).1 (P_tsw j).2 = true) ∨ (∃ E a b v, i = (53, E, a, b, v) ∧ c_thr k pc E = true) ∨ c_simple (cnm (P_on k)) (P_mby k) (P_mxl k) pc i nx = true ∨ c_heap (P_on k) (P_ini k) (P_mby k) pc i nx = true ∨ c_make (cnm (P_on k)) (P_mby k) pc i nx = true ∨ c_call k pc i nx = true ∨ c_lib (cnm (P_on k)) (P_mby k) P_st pc i nx = true ∨ c_strop k pc i nx = true ∨ c_ret (P_mby k) (P_mrt k) pc i = true := by
  unfold c_ins at hc
  split at hc
  · exact Or.inl ⟨_, _, _, _, rfl, hc⟩
  · exact Or.inr (Or.inl ⟨_, _, _, _, rfl, hc⟩)
  · refine Or.inr (Or.inr ?_)
    repeat' split at hc
    · exact Or.inl hc
    · exact Or.inr (Or.inl hc)
    · exact Or.inr (Or.inr (Or.inl hc))
    · exact Or.inr (Or.inr (Or.inr (Or.inl hc)))
    · exact Or.inr (Or.inr (Or.inr (Or.inr (Or.inl hc))))
    · exact Or.inr (Or.inr (Or.inr (Or.inr (Or.inr (Or.inl hc)))))
    · exact Or.inr (Or.inr (Or.inr (Or.inr (Or.inl hc))))
    · exact Or.inr (Or.inr (Or.inr (Or.inr (Or.inr (Or.inr hc)))))
theorem s_next {k : Nat} {i : MI} (hk : k < NM) (X0 : s_ctx k p l R s m args meth c) (hmin : 1 ≤ P_mfr k ∧ 40 ≤ P_mlo k) (hE : s_E dC dI dA B0 σ scr P_st P_txt s) (hσ : s_P B0 σ) (hl : s_l σ ls LS (P_mxl k)) (hc : c_ins k pc i (some q) = true)
    (hS : s_S dC dI dA B0 σ scr c0 s0 s.heap h H locs cells slots) (hs : P_step i ls st h = some (.inl (ls', st', h1))) (hR : h1.1 + h1.2.2.1 ≤ c0 + R.cells ∧ h1.2.1 + 6 * h1.2.2.1 ≤ s0 + R.slots)
    (kk : ∀ (LS' : Array Slot) (H' : Heap) (locs' : List Loc) (cells' slots' : Nat), s_l σ ls' LS' (P_mxl k) → s_S dC dI dA B0 σ scr c0 s0 s.heap h1 H' locs' cells' slots' → W p l e R s m args below meth c H' locs' cells' slots' Q (F0 m q LS' (st'.map (s_v σ)))) :
    W p l e R s m args below meth c H locs cells slots Q (F0 m pc LS (st.map (s_v σ))) := by
  obtain ⟨hx, hb, hml, hown, hts, hlocks, hrt, hin, hRf, hRl, hex, hst⟩ := id X0
  have hle : m_le h h1 := m_step_le P_tsw P_txt P_mcl k_dfl hs
  obtain ⟨l1, l2, l3⟩ := hle
  have hcc := hS.2.2.2.2.1
  have hss := hS.2.2.2.2.2.1
  have hRc : cells ≤ R.cells ∧ slots ≤ R.slots := by omega
  rcases c_ins_cases hc with ⟨j, a, b, v, rfl, hc⟩ | ⟨E, a, b, v, rfl, hc⟩ | hc | hc | hc | hc | hc | hc | hc
  · exfalso
    simp only [P_step, m_step, m_j] at hs
    split at hs <;> cases hs
  · exfalso
    simp only [P_step, m_step, m_d] at hs
    split at hs <;> cases hs
  · exact s_simple hx hb hown hts hc hl hs (fun LS' e hl' => by subst e; exact kk LS' H locs cells slots hl' hS)
  · exact s_heap hx hb hown hts hE hσ hin hc hl hS hs (fun H' locs' e hS' => by subst e; exact kk LS H' locs' cells slots hl hS')
  · exact s_make hx hb hown hts hE hσ hc hS hs hR (fun H' cells' slots' e hS' => by subst e; exact kk LS H' locs cells' slots' hl hS')
  · obtain ⟨x, hx9⟩ := c_call_not hc hs
    cases hx9
  · exact s_lib hx hb hml hown hts hE hσ (by omega) (by omega) hRc hc hl hS hs (fun H' locs' e hS' => by subst e; exact kk LS H' locs' cells slots hl hS')
  · exact s_strop X0 hE hl hc hS hRc hs (fun e1 e2 => by subst e1; subst e2; exact kk LS H locs cells slots hl hS)
  · exact absurd hs ((c_ret_not hc).1 _)
/-- what the end of a body owes -/
def s_Body (dC : Nat → ClassId) (dI : Nat → Nat → Nat) (dA : Nat → ClassId) (B0 : Nat) (σ : Nat → Nat) (scr : Nat × (Nat → Int32)) (l : Launch) (n : Nat) : Prop :=
  ∀ (k pc : Nat) (i : MI) (is : List (Nat × MI)) (ls st : List Value) (h : MHp) (r : MOut) (h' : MHp), k < NM → c_list k (P_cd k) = true → (1 ≤ P_mfr k ∧ 40 ≤ P_mlo k) → c_list k ((pc, i) :: is) = true → P_mx n k ((pc, i) :: is) ls st h = some (r, h') →
  ∀ (p : Program) (e : Env) (R : Room) (s : State) (m : MethodId) (args : Array Value) (below : List Frame) (meth : Method) (c : Code) (LS : Array Slot) (H : Heap) (locs : List Loc) (cells slots c0 s0 : Nat) (Q : State → Prop),
    s_ctx k p l R s m args meth c → s_E dC dI dA B0 σ scr P_st P_txt s → s_l σ ls LS (P_mxl k) → s_S dC dI dA B0 σ scr c0 s0 s.heap h H locs cells slots → (h'.1 + h'.2.2.1 ≤ c0 + R.cells ∧ h'.2.1 + 6 * h'.2.2.1 ≤ s0 + R.slots) →
    (∀ (i : MI) (pc : Nat) (ls st : List Value) (v : Option Value) (LS : Array Slot) (H' : Heap) (locs' : List Loc) (cells' slots' : Nat), c_ret (P_mby k) (P_mrt k) pc i = true → P_step i ls st h' = some (.inr (.inr (.inl (.inl v, h')))) → r = .inl v → s_S dC dI dA B0 σ scr c0 s0 s.heap h' H' locs' cells' slots' → W p l e R s m args below meth c H' locs' cells' slots' Q (F0 m pc LS (st.map (s_v σ)))) →
    (∀ (pc E : Nat) (h1 : MHp) (LS : Array Slot) (H' : Heap) (locs' : List Loc) (cells' slots' : Nat), c_thr k pc E = true → h' = (h1.1, h1.2.1, h1.2.2.1 + 1, h1.2.2.2) → r = .inr E → LS.size = P_mxl k → s_S dC dI dA B0 σ scr c0 s0 s.heap h1 H' locs' cells' slots' → W p l e R s m args below meth c H' locs' cells' slots' Q (F0 m pc LS [])) →
    (∀ (pc E : Nat) (ce : Cell) (q9 : Addr) (LS : Array Slot) (rest : List Value) (H' : Heap) (locs' : List Loc) (cells' slots' : Nat), P_hnd k pc E = some none → r = .inr E → s_S dC dI dA B0 σ scr c0 s0 s.heap h' H' locs' cells' slots' → H'[q9]? = some ce → ce.vm = .none → s.vm.findClass (x_n E) = some ce.cls → vx_W p l e R s m args below meth c H' locs' cells' slots' Q (F0 m pc LS rest) q9) →
    (∀ (pc E : Nat) (w : Int32) (ce : Cell) (q9 : Addr) (ls : List Value) (LS : Array Slot) (rest : List Value) (H' : Heap) (locs' : List Loc) (cells' slots' : Nat), P_hnd k pc E = some (some w) → r = .inl (some (.int w)) → s_l σ ls LS (P_mxl k) → s_S dC dI dA B0 σ scr c0 s0 s.heap h' H' locs' cells' slots' → H'[q9]? = some ce → ce.vm = .none → s.vm.findClass (x_n E) = some ce.cls → vx_W p l e R s m args below meth c H' locs' cells' slots' Q (F0 m pc LS rest) q9) →
    W p l e R s m args below meth c H locs cells slots Q (F0 m pc LS (st.map (s_v σ)))
theorem c_list_drop {k : Nat} (f : Nat × MI → Bool) : ∀ l : List (Nat × MI), c_list k l = true → c_list k (l.dropWhile f) = true := by
  intro l
  induction l with
  | nil => intro _; rfl
  | cons a t ih =>
    intro hl
    obtain ⟨pc, i⟩ := a
    rw [List.dropWhile_cons]
    split
    · simp only [c_list, Bool.and_eq_true] at hl
      exact ih hl.2
    · exact hl
theorem m_suf_head {k L pc : Nat} {i : MI} {is : List (Nat × MI)} (hs : m_suf P_cd k L = (pc, i) :: is) : pc = L := by
  unfold m_suf at hs
  have h9 := List.head?_dropWhile_not (fun e : Nat × MI => e.1 != L) (P_cd k)
  rw [hs] at h9
  simpa using h9
theorem m_pad_get : ∀ (n : Nat) (l : List Value) (j : Nat) (v : Value), (m_pad n l)[j]? = some v → v ≠ .null → l[j]? = some v := by
  intro n
  induction n with
  | zero => intro l j v hj; simp [m_pad] at hj
  | succ n ih =>
    intro l j v hj hv
    cases l with
    | nil =>
      cases j with
      | zero => simp [m_pad] at hj; exact absurd hj.symm hv
      | succ j =>
        simp only [m_pad, List.getElem?_cons_succ] at hj
        have := ih [] j v hj hv
        simp at this
    | cons a l =>
      cases j with
      | zero => simpa [m_pad] using hj
      | succ j =>
        simp only [m_pad, List.getElem?_cons_succ] at hj ⊢
        exact ih l j v hj hv
theorem m_spread_in : ∀ (as : List Value) (i j : Nat) (v : Value), (m_spread as)[j]? = some v → v ≠ .null → (i + j, s_v σ v) ∈ lv_args i (as.map (s_v σ)) := by
  intro as
  induction as with
  | nil => intro i j v hj; simp [m_spread] at hj
  | cons a l ih =>
    intro i j v hj hv
    have one : ∀ a : Value, a.category = 1 → m_spread (a :: l) = a :: m_spread l → (m_spread (a :: l))[j]? = some v → (i + j, s_v σ v) ∈ lv_args i ((a :: l).map (s_v σ)) := by
      intro a h1 h2 h3
      rw [h2] at h3
      simp only [List.map_cons, lv_args, s_v_cat, h1]
      cases j with
      | zero =>
        simp only [List.getElem?_cons_zero, Option.some.injEq] at h3
        subst h3
        exact List.mem_cons_self
      | succ j =>
        simp only [List.getElem?_cons_succ] at h3
        have := ih (i + 1) j v h3 hv
        rw [show i + 1 + j = i + (j + 1) by omega] at this
        exact List.mem_cons_of_mem _ (by simpa using this)
    cases a with
    | long x =>
      simp only [m_spread] at hj
      simp only [List.map_cons, lv_args, s_v_cat, show (Value.long x).category = 2 from rfl, if_true]
      match j, hj with
      | 0, hj =>
        simp only [List.getElem?_cons_zero, Option.some.injEq] at hj
        subst hj
        exact List.mem_cons_self
      | 1, hj =>
        simp at hj
        exact absurd hj.symm hv
      | j + 2, hj =>
        simp only [List.getElem?_cons_succ] at hj
        have := ih (i + 2) j v hj hv
        rw [show i + 2 + j = i + (j + 2) by omega] at this
        exact List.mem_cons_of_mem _ this
    | double x =>
      simp only [m_spread] at hj
      simp only [List.map_cons, lv_args, s_v_cat, show (Value.double x).category = 2 from rfl, if_true]
      match j, hj with
      | 0, hj =>
        simp only [List.getElem?_cons_zero, Option.some.injEq] at hj
        subst hj
        exact List.mem_cons_self
      | 1, hj =>
        simp at hj
        exact absurd hj.symm hv
      | j + 2, hj =>
        simp only [List.getElem?_cons_succ] at hj
        have := ih (i + 2) j v hj hv
        rw [show i + 2 + j = i + (j + 2) by omega] at this
        exact List.mem_cons_of_mem _ this
    | int x => exact one _ rfl rfl hj
    | float x => exact one _ rfl rfl hj
    | null => exact one _ rfl rfl hj
    | ref x => exact one _ rfl rfl hj
    | retAddr x => exact one _ rfl rfl hj
theorem m_spread_len : ∀ as : List Value, (lg_sl (as.map (s_v σ))).length = (m_spread as).length := by
  intro as
  induction as with
  | nil => rfl
  | cons a l ih =>
    unfold lg_sl at ih ⊢
    simp only [List.map_cons, List.flatMap_cons, List.length_append, ih, s_v_cat]
    cases a <;> simp [m_spread, Value.category] <;> omega
theorem s_entry {k : Nat} {as : List Value} (hlen : (m_spread as).length ≤ P_mxl k) : s_l σ (m_ent P_mxl k as) (lg_sl (as.map (s_v σ)) ++ List.replicate (P_mxl k - (lg_sl (as.map (s_v σ))).length) Slot.unset).toArray (P_mxl k) := by
  have hl := lv_entry (as.map (s_v σ)) (n := P_mxl k) (by rw [m_spread_len]; exact hlen)
  refine ⟨hl.1, hl.2.1, fun j v hj hv => ?_⟩
  have h1 := m_spread_in (σ := σ) as 0 j v (m_pad_get _ _ j v hj hv) hv
  rw [Nat.zero_add] at h1
  exact hl.2.2 _ h1
/-- a body from its entry -/
theorem s_enter {n k : Nat} {as : List Value} {h h' : MHp} {r : MOut} (hσ : s_P B0 σ) (IH : s_Body dC dI dA B0 σ scr l n) (hk : k + 1 < NM) (hlen : (m_spread as).length ≤ P_mxl k)
    (hmx : P_mx n k (P_cd k) (m_ent P_mxl k as) [] h = some (r, h')) {p : Program} {e : Env} {s : State} {m : MethodId} {below : List Frame} {meth : Method} {c : Code}
    (X0 : s_ctx k p l (s_rm k h h') s m (as.map (s_v σ)).toArray meth c) (hE : s_E dC dI dA B0 σ scr P_st P_txt s) (hP : va_P (dC, dI) vwCl (s_w dA B0 σ h) s.heap) (hz : h.2.2.1 = 0 → s.heap.size = B0 + h.1) (hle : h.1 ≤ 51001) (hscr : h.2.2.2 mS = .inl (0, scr.1, .inl scr.2)) :
    W p l e (s_rm k h h') s m (as.map (s_v σ)).toArray below meth c s.heap [] 0 0 (vx_MQ below (s_Qc dC dI dA B0 σ scr r h') (s_XC dC dI dA B0 σ scr r h') (as.map (s_v σ)).toArray s (s_mc h h') (s_ms h h') (s_A B0)) (entryFrame m (as.map (s_v σ)).toArray (P_mxl k)) := by
  obtain ⟨m1, m2, m3, m4, m5, m6, m7, m8, m9⟩ := c_met_spec hk
  have hcode := (ck_all hk).2
  simp only [c_code, Bool.and_eq_true, decide_eq_true_eq] at hcode
  obtain ⟨hhd, hcl⟩ := hcode
  obtain ⟨l1, l2, l3⟩ := mx_le P_tsw P_txt P_mcl k_dfl P_cd P_hnd P_mxl hmx
  have hl := s_entry (σ := σ) (k := k) hlen
  rw [lg_entry_eq]
  generalize (lg_sl (as.map (s_v σ)) ++ List.replicate (P_mxl k - (lg_sl (as.map (s_v σ))).length) Slot.unset).toArray = LS at hl ⊢
  rcases hcd : P_cd k with _ | ⟨⟨pc, i⟩, is⟩
  · rw [hcd] at hhd; cases hhd
  · have hpc : pc = 0 := by rw [hcd] at hhd; simpa [c_hd] using hhd
    subst hpc
    have hS0 : s_S dC dI dA B0 σ scr (h.1 + h.2.2.1) (h.2.1 + 6 * h.2.2.1) s.heap h s.heap [] 0 0 := ⟨hP, va_S.rf, fun e => by rw [hz e, e]; omega, hle, by omega, by omega, hscr⟩
    have hmc : s_mc h h' + (h.1 + h.2.2.1) = h'.1 + h'.2.2.1 := by unfold s_mc; omega
    have hms : s_ms h h' + (h.2.1 + 6 * h.2.2.1) = h'.2.1 + 6 * h'.2.2.1 := by unfold s_ms; omega
    have post : ∀ (H' : Heap) (locs' : List Loc) (cells' slots' : Nat), s_S dC dI dA B0 σ scr (h.1 + h.2.2.1) (h.2.1 + 6 * h.2.2.1) s.heap h' H' locs' cells' slots' → ∀ t : State, t.heap = H' → s_post dC dI dA B0 σ scr h' s t :=
      fun H' locs' cells' slots' hS' t ht => ⟨by rw [ht]; exact hS'.1, hS'.2.1.F ht, hS'.2.2.2.1, hS'.2.2.2.2.2.2⟩
    rw [hcd] at hmx
    refine IH k 0 i is (m_ent P_mxl k as) [] h r h' (by omega) hcl ⟨m7, m8⟩ (by rw [← hcd]; exact hcl) hmx p e (s_rm k h h') s m _ below meth c LS s.heap [] 0 0 (h.1 + h.2.2.1) (h.2.1 + 6 * h.2.2.1) _ X0 hE hl hS0 ⟨by show _ ≤ _ + s_mc h h'; omega, by show _ ≤ _ + s_ms h h'; omega⟩ ?_ ?_ ?_ ?_
    · intro i pc ls st v LS H' locs' cells' slots' hc hs hr hS'
      have e1 : s_mc h h' = cells' := by have := hS'.2.2.2.2.1; omega
      have e2 : s_ms h h' = slots' := by have := hS'.2.2.2.2.2.1; omega
      rw [e1, e2]
      exact (s_end X0 hc hs (fun t ht hW => ⟨v, hr, rfl, post _ _ _ _ hS' t ht⟩) hS'.2.1.2.2).2
    · intro pc E h1 LS H' locs' cells' slots' hc hh hr hLS hS'
      subst hh
      have e1 : s_mc h (h1.1, h1.2.1, h1.2.2.1 + 1, h1.2.2.2) = cells' + 1 := by have := hS'.2.2.2.2.1; simp only at hmc; omega
      have e2 : s_ms h (h1.1, h1.2.1, h1.2.2.1 + 1, h1.2.2.2) = slots' + 6 := by have := hS'.2.2.2.2.2.1; simp only at hms; omega
      exact s_throw X0 hE hLS hc hS' ⟨by show _ ≤ s_mc _ _; omega, by show _ ≤ s_ms _ _; omega⟩ (by omega) (by omega) (fun t ht => ⟨E, hr, rfl, ht⟩)
    · intro pc E ce q9 LS rest H' locs' cells' slots' hh hr hS' g1 g2 g3
      have hhh : P_hh k = [] := by
        unfold P_hnd at hh
        split at hh
        · cases hh
        · split at hh
          · assumption
          · exfalso
            rename_i hne
            have : ∀ (l : List (Nat × Nat × Nat × Nat)) (w : Int32), x_h E pc l w ≠ some none := by
              intro l
              induction l with
              | nil => intro w h9; cases h9
              | cons a t ih9 =>
                intro w h9
                obtain ⟨a1, a2, a3, a4⟩ := a
                unfold x_h at h9
                repeat' split at h9
                all_goals first | (cases h9; done) | exact ih9 _ h9
            exact this _ _ hh
      have hex := X0.2.2.2.2.2.2.2.2.2.2.1
      exact vx_out (fun x hx => by rw [hex, hhh] at hx; cases hx) X0.2.2.2.2.2.1 g1 g2 g3 (fun t ht hW => ⟨E, hr, rfl, post _ _ _ _ hS' t ht⟩) hS'.2.1.2.2 (by have := hS'.2.2.2.2.1; omega) (by have := hS'.2.2.2.2.2.1; omega)
    · intro pc E w ce q9 ls LS rest H' locs' cells' slots' hh hr hl' hS' g1 g2 g3
      have e1 : s_mc h h' = cells' := by have := hS'.2.2.2.2.1; omega
      have e2 : s_ms h h' = slots' := by have := hS'.2.2.2.2.2.1; omega
      rw [e1, e2]
      exact s_catch hk X0 hE hl' hh g1 g2 g3 (fun t ht hW => ⟨some (.int w), hr, rfl, post _ _ _ _ hS' t ht⟩) hS'.2.1.2.2
/-- the callee's contract, out of its body -/
theorem s_met_of {n k : Nat} {as : List Value} {h h' : MHp} {r : MOut} (hst : l.stackTraces = false) (hσ : s_P B0 σ) (IH : s_Body dC dI dA B0 σ scr l n) (hk : k + 1 < NM) (hlen : (m_spread as).length ≤ P_mxl k)
    (hmx : P_mx n k (P_cd k) (m_ent P_mxl k as) [] h = some (r, h')) : s_Met dC dI dA B0 σ scr l k as h r h' := by
  obtain ⟨m1, m2, m3, m4, m5, m6, m7, m8, m9⟩ := c_met_spec hk
  rcases hhh : P_hh k with _ | ⟨q0, ql⟩
  · have hword : P_word k = .code (P_mnm k) (P_mby k) (P_mxl k) (P_mrt k) := by unfold P_word; rw [hhh]
    refine vx_ofW (cc := P_mby k) (maxL := P_mxl k) (ret := P_mrt k) m1 (by rw [hword]) ?_
    intro p e s m args below meth c s₁ B hml htab hv
    obtain ⟨rfl, hE, hP, hz, hle, hscr⟩ := hv
    refine s_enter hσ IH hk hlen hmx ⟨B.exec, B.bytes, hml, by rw [← m4]; exact findClass_of_methodNamed B.named, fun w hw => atoms_spec (ws := P_word k :: GT) B.pre w (List.mem_cons_of_mem _ hw), B.notSynchronized, B.returns, fun hi => ?_, Nat.le_refl _, Nat.le_refl _, ?_, hst⟩ hE hP hz hle hscr
    · rw [(name_of_methodNamed B.named B.method).1]; exact m5 hi
    · rw [hhh]
      rcases ht : c.exceptionTable.toList with _ | ⟨x, t⟩
      · rfl
      · exact absurd (htab x (by rw [ht]; exact List.mem_cons_self)) (fun h => h)
  · have hword : P_word k = .codeWith (P_mnm k) (P_mby k) (P_mxl k) (P_mrt k) (q0 :: ql) := by unfold P_word; rw [hhh]
    refine vx_ofWH (cc := P_mby k) (maxL := P_mxl k) (ret := P_mrt k) (hh := q0 :: ql) m1 (by rw [hword]) ?_
    intro p e s m args below meth c s₁ B hml hv
    obtain ⟨rfl, hE, hP, hz, hle, hscr⟩ := hv
    have hts := atoms_spec (ws := P_word k :: GT) B.pre
    refine s_enter hσ IH hk hlen hmx ⟨B.exec, B.bytes, hml, by rw [← m4]; exact findClass_of_methodNamed B.named, fun w hw => hts w (List.mem_cons_of_mem _ hw), B.notSynchronized, B.returns, fun hi => ?_, Nat.le_refl _, Nat.le_refl _, ?_, hst⟩ hE hP hz hle hscr
    · rw [(name_of_methodNamed B.named B.method).1]; exact m5 hi
    · have hw := hts (P_word k) List.mem_cons_self
      rw [hword] at hw
      rw [hhh]
      exact vx_table (x := P_mnm k) B hw
set_option maxHeartbeats 4000000 in
theorem s_body (hst : l.stackTraces = false) (hσ : s_P B0 σ) : ∀ n, s_Body dC dI dA B0 σ scr l n := by
  intro n
  induction n with
  | zero => intro k pc i is ls st h r h' _ _ _ _ hmx; cases hmx
  | succ n ih =>
    intro k pc i is ls st h r h' hk hcd hmin hcl hmx p e R s m args below meth c LS H locs cells slots c0 s0 Q X0 hE hl hS hR KR KT KX KC
    simp only [c_list, Bool.and_eq_true] at hcl
    obtain ⟨hc, hcl⟩ := hcl
    unfold P_mx mx at hmx
    rcases hs : m_step P_tsw P_txt P_mcl k_dfl i ls st h with _ | ⟨ls', st', h1⟩ | ⟨L, ls', st', h1⟩ | ⟨r1, h1⟩ | ⟨y, as, st'⟩
    · rw [hs] at hmx; cases hmx
    · rw [hs] at hmx
      simp only at hmx
      have hle := mx_le P_tsw P_txt P_mcl k_dfl P_cd P_hnd P_mxl hmx
      obtain ⟨l1, l2, l3⟩ := hle
      rcases is with _ | ⟨⟨q, i'⟩, is⟩
      · cases n <;> cases hmx
      · refine s_next hk X0 hmin hE hσ hl hc hS hs ⟨by omega, by omega⟩ (fun LS' H' locs' cells' slots' hl' hS' => ?_)
        exact ih k q i' is ls' st' h1 r h' hk hcd hmin hcl hmx p e R s m args below meth c LS' H' locs' cells' slots' c0 s0 Q X0 hE hl' hS' hR KR KT KX KC
    · rw [hs] at hmx
      simp only at hmx
      have hcl2 : c_list k (m_suf P_cd k L) = true := c_list_drop _ _ hcd
      rcases hsuf : m_suf P_cd k L with _ | ⟨⟨q, i'⟩, is'⟩
      · rw [hsuf] at hmx; cases n <;> cases hmx
      · have hq := m_suf_head hsuf
        subst hq
        rw [hsuf] at hmx hcl2
        obtain ⟨hx, hb, hml, hown, hts, hlocks, hrt, hin, hRf, hRl, hex, hst9⟩ := id X0
        rcases c_ins_cases hc with ⟨j, a, b, v, rfl, hc⟩ | ⟨E, a, b, v, rfl, hc⟩ | hc | hc | hc | hc | hc | hc | hc
        · simp only [P_step, m_step, m_j] at hs
          split at hs
          · rename_i x st9
            simp only [Option.some.injEq, Sum.inr.injEq, Sum.inl.injEq, Prod.mk.injEq] at hs
            obtain ⟨rfl, rfl, rfl, rfl⟩ := hs
            exact s_switch hx hb hc (ih k _ i' is' _ _ _ r h' hk hcd hmin hcl2 hmx p e R s m args below meth c LS H locs cells slots c0 s0 Q X0 hE hl hS hR KR KT KX KC)
          · cases hs
        · exfalso
          simp only [P_step, m_step, m_d] at hs
          split at hs <;> cases hs
        · obtain ⟨rfl, rfl, kk⟩ := s_jump (σ := σ) (s := s) (p := p) (l := l) (e := e) (R := R) (m := m) (args := args) (below := below) (meth := meth) (H := H) (locs := locs) (cells := cells) (slots := slots) (Q := Q) (LS := LS) hx hb hc hs
          exact kk (ih k q i' is' _ _ _ r h' hk hcd hmin hcl2 hmx p e R s m args below meth c LS H locs cells slots c0 s0 Q X0 hE hl hS hR KR KT KX KC)
        · obtain ⟨x, hx9⟩ := c_heap_not hc hs; cases hx9
        · obtain ⟨x, hx9⟩ := c_make_not hc hs; cases hx9
        · obtain ⟨x, hx9⟩ := c_call_not hc hs; cases hx9
        · obtain ⟨x, hx9⟩ := c_lib_not hc hs; cases hx9
        · obtain ⟨x, hx9⟩ := c_strop_not hc hs; cases hx9
        · exact absurd hs ((c_ret_not hc).2.1 _)
    · rw [hs] at hmx
      simp only [Option.some.injEq, Prod.mk.injEq] at hmx
      obtain ⟨rfl, rfl⟩ := hmx
      rcases c_ins_cases hc with ⟨j, a, b, v, rfl, hc⟩ | ⟨E, a, b, v, rfl, hc⟩ | hc | hc | hc | hc | hc | hc | hc
      · exfalso
        simp only [P_step, m_step, m_j] at hs
        split at hs <;> cases hs
      · simp only [P_step, m_step, m_d] at hs
        split at hs
        · simp only [Option.some.injEq, Sum.inr.injEq, Sum.inl.injEq, Prod.mk.injEq] at hs
          obtain ⟨rfl, rfl⟩ := hs
          exact KT pc E h LS H locs cells slots hc rfl rfl hl.1 hS
        · cases hs
      · exact absurd hs (s_simple_not hc _)
      · obtain ⟨x, hx9⟩ := c_heap_not hc hs; cases hx9
      · obtain ⟨x, hx9⟩ := c_make_not hc hs; cases hx9
      · obtain ⟨x, hx9⟩ := c_call_not hc hs; cases hx9
      · obtain ⟨x, hx9⟩ := c_lib_not hc hs; cases hx9
      · obtain ⟨x, hx9⟩ := c_strop_not hc hs; cases hx9
      · obtain ⟨rfl, v, rfl⟩ := (c_ret_not hc).2.2.2 _ _ hs
        exact KR i pc ls st v LS H locs cells slots hc hs rfl hS
    · rw [hs] at hmx
      simp only at hmx
      split at hmx
      · rename_i hlen
        rcases hcall : mx P_tsw P_txt P_mcl k_dfl P_cd P_hnd P_mxl n y (P_cd y) (m_ent P_mxl y as) [] h with _ | ⟨r1, h1⟩
        · rw [hcall] at hmx; cases hmx
        · rw [hcall] at hmx
          have hle1 := mx_le P_tsw P_txt P_mcl k_dfl P_cd P_hnd P_mxl hcall
          rcases c_ins_cases hc with ⟨j, a, b, v, rfl, hc⟩ | ⟨E, a, b, v, rfl, hc⟩ | hc | hc | hc | hc | hc | hc | hc
          · exfalso
            simp only [P_step, m_step, m_j] at hs
            split at hs <;> cases hs
          · exfalso
            simp only [P_step, m_step, m_d] at hs
            split at hs <;> cases hs
          · exact absurd hs (s_simple_not hc _)
          · obtain ⟨x, hx9⟩ := c_heap_not hc hs; cases hx9
          · obtain ⟨x, hx9⟩ := c_make_not hc hs; cases hx9
          · have hy : y + 1 < NM := (c_call_y hc hs).1
            have hM := s_met_of hst hσ ih hy hlen hcall
            have hcnt : h1.1 + h1.2.2.1 ≤ h'.1 + h'.2.2.1 ∧ h1.2.1 + 6 * h1.2.2.1 ≤ h'.2.1 + 6 * h'.2.2.1 := by
              rcases r1 with v1 | E1
              · have h2 := mx_le P_tsw P_txt P_mcl k_dfl P_cd P_hnd P_mxl hmx
                obtain ⟨l1, l2, l3⟩ := h2
                omega
              · simp only at hmx
                rcases hh : P_hnd k pc E1 with _ | _ | w
                · rw [hh] at hmx; cases hmx
                · rw [hh] at hmx; cases hmx; omega
                · rw [hh] at hmx; cases hmx; omega
            refine s_call X0 hE hσ hl hc hS hs hM hle1 ⟨by omega, by omega⟩ ?_ ?_ ?_
            · intro hik
              rcases r1 with v1 | E1
              · exact ⟨v1, rfl⟩
              · exfalso
                simp only at hmx
                have : P_hnd k pc E1 = none := by
                  unfold P_hnd
                  rw [if_pos (hik.symm)]
                rw [this] at hmx
                cases hmx
            · intro v H' locs' cells' slots' er hS'
              subst er
              simp only at hmx
              rcases is with _ | ⟨⟨q, i'⟩, is⟩
              · cases n <;> cases hmx
              · have hq : q = pc + 3 := (c_call_y hc hs).2 q rfl
                subst hq
                exact ih k _ i' is ls _ h1 r h' hk hcd hmin hcl hmx p e R s m args below meth c LS H' locs' cells' slots' c0 s0 Q X0 hE hl hS' hR KR KT KX KC
            · intro E ce q9 H' locs' cells' slots' er hS' g1 g2 g3
              subst er
              simp only at hmx
              rcases hh : P_hnd k pc E with _ | _ | w
              · rw [hh] at hmx; cases hmx
              · rw [hh] at hmx; cases hmx
                exact KX pc E ce q9 LS _ H' locs' cells' slots' hh rfl hS' g1 g2 g3
              · rw [hh] at hmx; cases hmx
                exact KC pc E w ce q9 ls LS _ H' locs' cells' slots' hh rfl hl hS' g1 g2 g3
          · obtain ⟨x, hx9⟩ := c_lib_not hc hs; cases hx9
          · obtain ⟨x, hx9⟩ := c_strop_not hc hs; cases hx9
          · exact absurd hs ((c_ret_not hc).2.2.1 _)
      · cases hmx
end Main
