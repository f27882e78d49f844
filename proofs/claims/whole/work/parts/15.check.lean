/-! THE CHECK OF THE PROGRAM: every row of its tables, by the kernel -/
def c_link (pl : Nat) (own : String) (y : MethodName) : Option Nat := match c_lk pl with
  | some (.methodLink o idx z) => if o = own ∧ z = y then some idx else none
  | _ => none
def c_nest (pl : Nat) (own : String) (y : MethodName) : Option (Nat × String) := match c_lk pl with
  | some (.methodLinkNest o idx z h) => if o = own ∧ z = y then some (idx, h) else none
  | _ => none
def c_room (k y n : Nat) : Bool := decide (y + 1 < NM) && decide (P_mfr y + 1 ≤ P_mfr k) && decide (8 + (P_mxl y + 11) + P_mlo y ≤ P_mlo k) && decide ((parseMethodDescriptor (P_mnm y).desc).map (fun d => d.parameters.length) = some n)
def c_call (k pc : Nat) (i : MI) (nx : Option Nat) : Bool := match i with
  | (40, y, n, pl, _) => c_room k y n && decide (P_kd y = 0) && (match c_link pl (P_mnm k).cls (P_mnm y) with
    | some idx => c_d (P_mby k) pc (.invokevirtual idx) 3 nx
    | none => false) && (match vwCl[P_mcl y]? with
    | some (C, _, _) => decide (C = (P_mnm y).cls)
    | none => false)
  | (41, y, n, pl, _) => c_room k y n && decide (P_kd y = 1) && (match c_link pl (P_mnm k).cls (P_mnm y) with
    | some idx => c_d (P_mby k) pc (.invokestatic idx) 3 nx
    | none => false)
  | (42, y, n, pl, _) => c_room k y n && decide (P_kd y = 2) && decide (P_hh y = []) && decide (P_mrt y = none) && decide ((P_mnm y).name = "<init>") && (match c_link pl (P_mnm k).cls (P_mnm y) with
    | some idx => c_d (P_mby k) pc (.invokespecial idx) 3 nx
    | none => false)
  | (43, y, n, pl, _) => c_room k y n && decide (P_kd y = 2) && decide (P_hh y = []) && decide (P_mrt y = none) && decide ((P_mnm y).name = "<init>") && (match c_nest pl (P_mnm k).cls (P_mnm y) with
    | some (idx, _) => c_d (P_mby k) pc (.invokespecial idx) 3 nx
    | none => false)
  | _ => false
def c_strop (k pc : Nat) (i : MI) (nx : Option Nat) : Bool := match i with
  | (47, idx, _, pl, _) => c_w pl (.methodLink (P_mnm k).cls idx yJ0_length_8abf5) && c_d (P_mby k) pc (.invokevirtual idx) 3 nx && decide (3 ≤ P_mfr k) && decide (60 ≤ P_mlo k)
  | (48, idx, _, pl, _) => c_w pl (.methodLink (P_mnm k).cls idx yJ0_charAt_5068e) && c_d (P_mby k) pc (.invokevirtual idx) 3 nx && decide (5 ≤ P_mfr k) && decide (116 ≤ P_mlo k)
  | _ => false
def c_ret (b : ByteArray) (rt : Option FieldType) (pc : Nat) (i : MI) : Bool := match i with
  | (50, z, _, _, _) => decide (decode b pc = .ok (.ireturn, 1)) && (if z = 0 then decide (rt = some .int) else decide (rt = some .boolean))
  | (51, _, _, _, _) => decide (decode b pc = .ok (.lreturn, 1)) && decide (rt = some .long)
  | (52, _, _, _, _) => decide (decode b pc = .ok (.return_, 1)) && decide (rt = none)
  | _ => false
def c_thr (k pc E : Nat) : Bool := decide (E < 3) && decide ((P_mnm k).cls = RX10) && decide (P_hh k = []) && decide (decode (P_mby k) pc = .ok (.new (x_k E).1, 3)) && decide (decode (P_mby k) (pc + 3) = .ok (.dup, 1)) && decide (decode (P_mby k) (pc + 4) = .ok (.ldc_w (x_k E).2.1, 3)) && decide (decode (P_mby k) (pc + 7) = .ok (.invokespecial (x_k E).2.2.1, 3)) && decide (decode (P_mby k) (pc + 10) = .ok (.athrow, 1)) && decide (6 ≤ P_mfr k) && decide (90 ≤ P_mlo k)
def c_ins (k pc : Nat) (i : MI) (nx : Option Nat) : Bool := match i with
  | (24, j, _, _, _) => c_sw (P_mby k) pc (P_tsw j).1 (P_tsw j).2
  | (53, E, _, _, _) => c_thr k pc E
  | (o, _, _, _, _) => if o < 24 then c_simple (P_mnm k).cls (P_mby k) (P_mxl k) pc i nx else if o < 36 then c_heap (P_mnm k).cls (decide ((P_mnm k).name = "<init>")) (P_mby k) pc i nx else if o < 40 then c_make (P_mnm k).cls (P_mby k) pc i nx else if o < 44 then c_call k pc i nx else if o < 47 then c_lib (P_mnm k).cls (P_mby k) P_st pc i nx else if o < 49 then c_strop k pc i nx else if o < 50 then c_lib (P_mnm k).cls (P_mby k) P_st pc i nx else c_ret (P_mby k) (P_mrt k) pc i
def c_hd (is : List (Nat × MI)) : Option Nat := match is with
  | [] => none
  | (q, _) :: _ => some q
def c_list (k : Nat) : List (Nat × MI) → Bool
  | [] => true
  | (pc, i) :: is => c_ins k pc i (c_hd is) && c_list k is
/-- a handler: it lays the exception away, and returns a number -/
def c_hnd (k : Nat) : List (Nat × Nat × Nat × Nat) → Int32 → Bool
  | [], _ => true
  | (_, _, hp, ct) :: t, w => decide (x_e ct < 3) && (match decode (P_mby k) hp with
    | .ok (.astore_n j, 1) => decide ((j : Nat) < P_mxl k) && decide (decode (P_mby k) (hp + 1) = .ok (.iconst w.toInt, 1)) && decide (decode (P_mby k) (hp + 1 + 1) = .ok (.ireturn, 1))
    | .ok (.astore j, 2) => decide (j < P_mxl k) && decide (decode (P_mby k) (hp + 2) = .ok (.iconst w.toInt, 1)) && decide (decode (P_mby k) (hp + 2 + 1) = .ok (.ireturn, 1))
    | _ => false) && c_hnd k t (w + 1)
def P_word (k : Nat) : Cond := if P_hh k = [] then .code (P_mnm k) (P_mby k) (P_mxl k) (P_mrt k) else .codeWith (P_mnm k) (P_mby k) (P_mxl k) (P_mrt k) (P_hh k)
def c_met (k : Nat) : Bool := c_w (P_pl k).1 (P_word k) && plainName (P_mnm k).cls && decide ((P_mnm k).cls ≠ "java/lang/invoke/MethodHandle") && decide ((P_mnm k).cls ≠ "java/lang/invoke/VarHandle") && c_w (P_pl k).2.2.2 (.initialized (P_mnm k).cls) &&
  (match P_kd k with
  | 0 => c_w (P_pl k).2.1 (.instanceMethod (P_mnm k)) && c_w (P_pl k).2.2.1 (.selects (P_mnm k).cls (P_mnm k) (P_mnm k))
  | 1 => c_w (P_pl k).2.1 (.static (P_mnm k))
  | 2 => c_w (P_pl k).2.1 (.instanceMethod (P_mnm k))
  | _ => false) && decide (1 ≤ P_mfr k) && decide (40 ≤ P_mlo k) && (if P_hh k = [] then true else decide ((P_mnm k).cls = RL) && decide (P_mrt k = some .int) && c_hnd k (P_hh k) 1)
def c_code (k : Nat) : Bool := c_list k (P_cd k)
