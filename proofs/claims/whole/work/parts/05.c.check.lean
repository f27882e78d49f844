/-! THE CHECK OF THE PROGRAM: every row of its tables, by the kernel -/
def c_link (pl on y z : Nat) : Option Nat := match MLT[pl]? with
  | some (o, idx, y', z') => if o = on ∧ y' = y ∧ z' = z then some idx else none
  | _ => none
theorem c_link_0 {pl on y idx : Nat} (h : c_link pl on y 0 = some idx) : Cond.methodLink (cnm on) idx (P_mnm y) ∈ GT := by
  unfold c_link at h
  split at h
  · rename_i o idx' y' z' e1
    split at h
    · rename_i h1
      obtain ⟨rfl, rfl, rfl⟩ := h1
      cases h
      exact List.mem_filter.mpr ⟨MLT_in _ (List.mem_of_getElem? e1), rfl⟩
    · cases h
  · cases h
theorem c_link_1 {pl on y idx : Nat} (h : c_link pl on y 1 = some idx) : Cond.methodLinkNest (cnm on) idx (P_mnm y) RX10 ∈ NW := by
  unfold c_link at h
  split at h
  · rename_i o idx' y' z' e1
    split at h
    · rename_i h1
      obtain ⟨rfl, rfl, rfl⟩ := h1
      cases h
      exact List.mem_filter.mpr ⟨MLT_in _ (List.mem_of_getElem? e1), rfl⟩
    · cases h
  · cases h
def c_room (k y n : Nat) : Bool := decide (y + 1 < NM) && decide (P_mfr y + 1 ≤ P_mfr k) && decide (8 + (P_mxl y + 11) + P_mlo y ≤ P_mlo k) && decide (P_na y = n)
def c_call (k pc : Nat) (i : MI) (nx : Option Nat) : Bool := match i with
  | (40, y, n, pl, _) => c_room k y n && decide (P_kd y = 0) && decide (P_hh y = []) && (match c_link pl (P_on k) y 0 with
    | some idx => c_d (P_mby k) pc (.invokevirtual idx) 3 nx
    | none => false) && decide (P_mcl y < 12) && decide (P_mcl y = P_on y)
  | (41, y, n, pl, _) => c_room k y n && decide (P_kd y = 1) && (match c_link pl (P_on k) y 0 with
    | some idx => c_d (P_mby k) pc (.invokestatic idx) 3 nx
    | none => false)
  | (42, y, n, pl, _) => c_room k y n && decide (P_kd y = 2) && decide (P_hh y = []) && decide (P_mrt y = none) && P_ini y && (P_ini k || decide (k + 1 = NM)) && (match c_link pl (P_on k) y 0 with
    | some idx => c_d (P_mby k) pc (.invokespecial idx) 3 nx
    | none => false)
  | (43, y, n, pl, _) => c_room k y n && decide (P_kd y = 2) && decide (P_hh y = []) && decide (P_mrt y = none) && P_ini y && (P_ini k || decide (k + 1 = NM)) && (match c_link pl (P_on k) y 1 with
    | some idx => c_d (P_mby k) pc (.invokespecial idx) 3 nx
    | none => false)
  | _ => false
def c_strop (k pc : Nat) (i : MI) (nx : Option Nat) : Bool := match i with
  | (47, idx, _, pl, _) => c_w pl (.methodLink (cnm (P_on k)) idx yJ0_length_8abf5) && c_d (P_mby k) pc (.invokevirtual idx) 3 nx && decide (3 ≤ P_mfr k) && decide (60 ≤ P_mlo k)
  | (48, idx, _, pl, _) => c_w pl (.methodLink (cnm (P_on k)) idx yJ0_charAt_5068e) && c_d (P_mby k) pc (.invokevirtual idx) 3 nx && decide (5 ≤ P_mfr k) && decide (116 ≤ P_mlo k)
  | _ => false
def c_ret (b : ByteArray) (rt : Option FieldType) (pc : Nat) (i : MI) : Bool := match i with
  | (50, z, _, _, _) => decide (decode b pc = .ok (.ireturn, 1)) && (if z = 0 then decide (rt = some .int) else decide (rt = some .boolean))
  | (51, _, _, _, _) => decide (decode b pc = .ok (.lreturn, 1)) && decide (rt = some .long)
  | (52, _, _, _, _) => decide (decode b pc = .ok (.return_, 1)) && decide (rt = none)
  | _ => false
def c_thr (k pc E : Nat) : Bool := decide (E < 3) && decide (P_on k = 10) && decide (P_hh k = []) && decide (decode (P_mby k) pc = .ok (.new (x_k E).1, 3)) && decide (decode (P_mby k) (pc + 3) = .ok (.dup, 1)) && decide (decode (P_mby k) (pc + 4) = .ok (.ldc_w (x_k E).2.1, 3)) && decide (decode (P_mby k) (pc + 7) = .ok (.invokespecial (x_k E).2.2.1, 3)) && decide (decode (P_mby k) (pc + 10) = .ok (.athrow, 1)) && decide (6 ≤ P_mfr k) && decide (90 ≤ P_mlo k)
def c_ins (k pc : Nat) (i : MI) (nx : Option Nat) : Bool := match i with
  | (24, j, _, _, _) => c_sw (P_mby k) pc (P_tsw j).1 (P_tsw j).2
  | (53, E, _, _, _) => c_thr k pc E
  | (o, _, _, _, _) => if o < 24 then c_simple (cnm (P_on k)) (P_mby k) (P_mxl k) pc i nx else if o < 36 then c_heap (P_on k) (P_ini k) (P_mby k) pc i nx else if o < 40 then c_make (cnm (P_on k)) (P_mby k) pc i nx else if o < 44 then c_call k pc i nx else if o < 47 then c_lib (cnm (P_on k)) (P_mby k) P_st pc i nx else if o < 49 then c_strop k pc i nx else if o < 50 then c_lib (cnm (P_on k)) (P_mby k) P_st pc i nx else c_ret (P_mby k) (P_mrt k) pc i
def c_hd (is : List (Nat × MI)) : Option Nat := match is with
  | [] => none
  | (q, _) :: _ => some q
def c_list (k : Nat) : List (Nat × MI) → Bool
  | [] => true
  | (pc, i) :: is => c_ins k pc i (c_hd is) && c_list k is
/-- a handler: it lays the exception away, and returns a number -/
def c_hnd (k : Nat) : List (Nat × Nat × Nat × Nat) → Int32 → Bool
  | [], _ => true
  | (_, _, hp, ct) :: t, w => decide (x_e ct < 3) && (match decode (P_mby k) hp with
    | .ok (.astore_n j, 1) => decide ((j : Nat) < P_mxl k) && decide (decode (P_mby k) (hp + 1) = .ok (.iconst w.toInt, 1)) && decide (decode (P_mby k) (hp + 1 + 1) = .ok (.ireturn, 1))
    | .ok (.astore j, 2) => decide (j < P_mxl k) && decide (decode (P_mby k) (hp + 2) = .ok (.iconst w.toInt, 1)) && decide (decode (P_mby k) (hp + 2 + 1) = .ok (.ireturn, 1))
    | _ => false) && c_hnd k t (w + 1)
def c_met (k : Nat) : Bool := plainName (P_mnm k).cls && decide ((P_mnm k).cls ≠ "java/lang/invoke/MethodHandle") && decide ((P_mnm k).cls ≠ "java/lang/invoke/VarHandle") && decide ((P_mnm k).cls = cnm (P_on k)) && (!P_ini k || decide ((P_mnm k).name = "<init>")) && decide ((parseMethodDescriptor (P_mnm k).desc).map (fun d => d.parameters.length) = some (P_na k)) && decide (1 ≤ P_mfr k) && decide (40 ≤ P_mlo k) && (match P_hh k with
  | [] => true
  | hh => decide (P_on k = 12) && decide (P_mrt k = some .int) && c_hnd k hh 1)
def c_code (k : Nat) : Bool := decide (c_hd (P_cd k) = some 0) && c_list k (P_cd k)
