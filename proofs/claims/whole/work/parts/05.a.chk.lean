/-! WHAT A PROGRAM CHECKS OF AN INSTRUCTION'S PLACE -/
def c_n (nx : Option Nat) (q : Nat) : Bool := match nx with
  | none => true
  | some z => z == q
def c_d (b : ByteArray) (pc : Nat) (ins : Instr) (len : Nat) (nx : Option Nat) : Bool := decide (decode b pc = .ok (ins, len)) && c_n nx (pc + len)
def GT : List Cond := lw_tbl.filter goodWord
def c_w (pl : Nat) (w : Cond) : Bool := decide (c_lk pl = some w) && goodWord w
theorem c_w_in {pl : Nat} {w : Cond} (h : c_w pl w = true) : w ∈ GT := by
  simp only [c_w, Bool.and_eq_true, decide_eq_true_eq] at h
  exact List.mem_filter.mpr ⟨c_lk_in h.1, h.2⟩
theorem c_d_dec {b : ByteArray} {pc : Nat} {ins : Instr} {len : Nat} {nx : Option Nat} (h : c_d b pc ins len nx = true) : decode b pc = .ok (ins, len) := by
  simp only [c_d, Bool.and_eq_true, decide_eq_true_eq] at h
  exact h.1
theorem c_d_nx {b : ByteArray} {pc : Nat} {ins : Instr} {len q : Nat} (h : c_d b pc ins len (some q) = true) : q = pc + len := by
  simp only [c_d, c_n, Bool.and_eq_true, beq_iff_eq] at h
  exact h.2
/-- a jump's offset -/
def c_o (pc L : Nat) : Int := (L : Int) - (pc : Int)
theorem c_o_eq (pc L : Nat) : (pc : Int) + c_o pc L = (L : Int) := by unfold c_o; omega
def c_cnd (c : Nat) : ClassFile.Cond := match c with
  | 0 => .eq
  | 1 => .ne
  | 2 => .lt
  | 3 => .ge
  | 4 => .gt
  | _ => .le
/-- the simple ones -/
def c_simple (own : String) (b : ByteArray) (nL pc : Nat) (i : MI) (nx : Option Nat) : Bool := match i with
  | (0, f, idx, pl, v) => match f with
    | 0 => c_d b pc (.iconst v.toInt) 1 nx
    | 1 => c_d b pc (.bipush v.toInt) 2 nx && decide ((Int8.ofInt v.toInt).toInt32 = v)
    | 2 => c_d b pc (.sipush v.toInt) 3 nx && decide ((Int16.ofInt v.toInt).toInt32 = v)
    | 3 => c_d b pc (.ldc idx) 2 nx && c_w pl (.constant own idx v)
    | _ => c_d b pc (.ldc_w idx) 3 nx && c_w pl (.constant own idx v)
  | (1, n, _, _, _) => match n with
    | 0 => c_d b pc (.lconst 0) 1 nx
    | 1 => c_d b pc (.lconst 1) 1 nx
    | _ => false
  | (2, j, len, _, _) => if len = 1 then decide (((Fin.ofNat 4 j : Fin 4) : Nat) = j) && c_d b pc (.iload_n (Fin.ofNat 4 j)) 1 nx else c_d b pc (.iload j) 2 nx
  | (3, j, len, _, _) => if len = 1 then decide (((Fin.ofNat 4 j : Fin 4) : Nat) = j) && c_d b pc (.lload_n (Fin.ofNat 4 j)) 1 nx else c_d b pc (.lload j) 2 nx
  | (4, j, len, _, _) => if len = 1 then decide (((Fin.ofNat 4 j : Fin 4) : Nat) = j) && c_d b pc (.aload_n (Fin.ofNat 4 j)) 1 nx else c_d b pc (.aload j) 2 nx
  | (5, j, len, _, _) => decide (j < nL) && (if len = 1 then decide (((Fin.ofNat 4 j : Fin 4) : Nat) = j) && c_d b pc (.istore_n (Fin.ofNat 4 j)) 1 nx else c_d b pc (.istore j) 2 nx)
  | (6, j, len, _, _) => decide (j + 1 < nL) && (if len = 1 then decide (((Fin.ofNat 4 j : Fin 4) : Nat) = j) && c_d b pc (.lstore_n (Fin.ofNat 4 j)) 1 nx else c_d b pc (.lstore j) 2 nx)
  | (7, j, len, _, _) => decide (j < nL) && (if len = 1 then decide (((Fin.ofNat 4 j : Fin 4) : Nat) = j) && c_d b pc (.astore_n (Fin.ofNat 4 j)) 1 nx else c_d b pc (.astore j) 2 nx)
  | (8, j, _, _, v) => decide (j < nL) && c_d b pc (.iinc j v.toInt) 3 nx
  | (9, o, _, _, _) => match o with
    | 0 => c_d b pc .iadd 1 nx
    | 1 => c_d b pc .isub 1 nx
    | 2 => c_d b pc .imul 1 nx
    | 3 => c_d b pc .iand 1 nx
    | 4 => c_d b pc .ior 1 nx
    | 5 => c_d b pc .ixor 1 nx
    | 6 => c_d b pc .ishl 1 nx
    | 7 => c_d b pc .ishr 1 nx
    | _ => c_d b pc .iushr 1 nx
  | (10, o, _, _, _) => if o = 0 then c_d b pc .idiv 1 nx else c_d b pc .irem 1 nx
  | (11, _, _, _, _) => c_d b pc .ineg 1 nx
  | (12, o, _, _, _) => if o = 0 then c_d b pc .lor 1 nx else c_d b pc .lmul 1 nx
  | (13, _, _, _, _) => c_d b pc .lshl 1 nx
  | (14, _, _, _, _) => c_d b pc .ldiv 1 nx
  | (15, _, _, _, _) => c_d b pc .i2l 1 nx
  | (16, _, _, _, _) => c_d b pc .l2i 1 nx
  | (17, _, _, _, _) => c_d b pc .lcmp 1 nx
  | (18, _, _, _, _) => c_d b pc .dup 1 nx
  | (19, _, _, _, _) => c_d b pc .dup2 1 nx
  | (20, _, _, _, _) => c_d b pc .pop 1 nx
  | (21, c, L, _, _) => c_d b pc (.ifCond (c_cnd c) (c_o pc L)) 3 nx
  | (22, c, L, _, _) => c_d b pc (.if_icmp (c_cnd c) (c_o pc L)) 3 nx
  | (23, L, _, _, _) => decide (decode b pc = .ok (.goto (c_o pc L), 3))
  | _ => false
def c_isR (ty : FieldType) : Bool := match ty with
  | .object _ => true
  | .array _ => true
  | _ => false
/-- what a field's link says of the field's type -/
def c_ty (e : Nat × Nat × Nat × Nat × Nat) : Bool := match vwCl[e.2.2.1]? with
  | some (_, T, N) => decide (e.2.2.2.1 < N) && (match parseFieldDescriptor (T e.2.2.2.1).2.2.1 with
    | some ty => match e.2.2.2.2 with
      | 0 => !(T e.2.2.2.1).2.2.2 && decide (ty = .int)
      | 1 => (T e.2.2.2.1).2.2.2 && c_isR ty
      | 2 => !(T e.2.2.2.1).2.2.2 && c_isR ty
      | _ => !(T e.2.2.2.1).2.2.2 && decide (ty = .boolean)
    | none => false)
  | none => false
theorem FLT_ty : FLT.all c_ty = true := by decide +kernel
def c_fld (on pl ci f : Nat) : Option (Nat × Nat) := match FLT[pl]? with
  | some (o, idx, c, g, t) => if o = on ∧ c = ci ∧ g = f then some (idx, t) else none
  | none => none
def c_heap (on : Nat) (ini : Bool) (b : ByteArray) (pc : Nat) (i : MI) (nx : Option Nat) : Bool := match i with
  | (25, _, _, _, _) => c_d b pc .iaload 1 nx
  | (26, _, _, _, _) => c_d b pc .iastore 1 nx
  | (27, _, _, _, _) => c_d b pc .baload 1 nx
  | (28, _, _, _, _) => c_d b pc .bastore 1 nx
  | (29, _, _, _, _) => c_d b pc .laload 1 nx
  | (30, _, _, _, _) => c_d b pc .lastore 1 nx
  | (31, tg, _, _, _) => (decide (tg = 3) || decide (tg = 4)) && c_d b pc .aaload 1 nx
  | (32, _, _, _, _) => c_d b pc .aastore 1 nx
  | (33, _, _, _, _) => c_d b pc .arraylength 1 nx
  | (34, f, ci, pl, _) => match c_fld on pl ci f with
    | some (idx, _) => c_d b pc (.getfield idx) 3 nx
    | none => false
  | (35, f, ci, pl, kd) => match c_fld on pl ci f with
    | some (idx, t) => c_d b pc (.putfield idx) 3 nx && (if kd = 0 then decide (t = 0) else if kd = 3 then decide (t = 3) else if kd = 1 then decide (t = 1) && ini && decide (ci = on) else decide (t = 2))
    | none => false
  | _ => false
def c_make (own : String) (b : ByteArray) (pc : Nat) (i : MI) (nx : Option Nat) : Bool := match i with
  | (36, ci, idx, pl, _) => match vwCl[ci]? with
    | some (C, _, _) => c_w pl (.classLink own idx C) && c_d b pc (.new idx) 3 nx
    | none => false
  | (37, tg, _, _, _) => match tg with
    | 0 => c_d b pc (.newarray .int) 2 nx
    | 1 => c_d b pc (.newarray .long) 2 nx
    | 2 => c_d b pc (.newarray .boolean) 2 nx
    | _ => false
  | (38, _, idx, pl, _) => c_w pl (.classLink own idx RX0) && c_d b pc (.anewarray idx) 3 nx
  | (39, _, idx, pl, _) => c_w pl (.classLink own idx "[[I") && c_d b pc (.multianewarray idx 2) 4 nx
  | _ => false
def c_lib (own : String) (b : ByteArray) (stT : List (String × Nat × String)) (pc : Nat) (i : MI) (nx : Option Nat) : Bool := match i with
  | (44, idx, _, pl, _) => c_w pl (.methodLink own idx objectInit) && c_d b pc (.invokespecial idx) 3 nx
  | (45, o, idx, pl, _) => c_w pl (.methodLink own idx (if o = 0 then Lib.Math.min.name else Lib.Math.max.name)) && c_d b pc (.invokestatic idx) 3 nx
  | (46, idx, _, pl, _) => c_w pl (.methodLink own idx arraycopyName) && c_d b pc (.invokestatic idx) 3 nx
  | (49, j, form, idx, _) => (match stT[j]? with
    | some q => decide (q.1 = own) && decide (q.2.1 = idx)
    | none => false) && (if form = 0 then c_d b pc (.ldc idx) 2 nx else c_d b pc (.ldc_w idx) 3 nx)
  | _ => false
/-- a switch -/
def c_sw (b : ByteArray) (pc : Nat) (t : List (Int × Nat)) (d : Nat) : Bool := match decode b pc with
  | .ok (.tableswitch dflt lo hi offs, _) => decide ((pc : Int) + dflt = (d : Int)) && decide (t = (List.range offs.size).map (fun (k : Nat) => (lo + (k : Int), ((pc : Int) + (offs.toList.getD k 0)).toNat))) && decide (hi = lo + (offs.size : Int) - 1) && offs.toList.all (fun o => decide (0 ≤ (pc : Int) + o))
  | .ok (.lookupswitch dflt ps, _) => decide ((pc : Int) + dflt = (d : Int)) && decide (t = ps.toList.map (fun q => (q.1, ((pc : Int) + q.2).toNat))) && (ps.toList.zip (ps.toList.drop 1)).all (fun (a, next) => a.1 < next.1) && ps.toList.all (fun q => decide (0 ≤ (pc : Int) + q.2))
  | _ => false
def c_nw (w : Cond) : Bool := match w with
  | .castable .. => true
  | .declares .. => true
  | .methodLinkNest .. => true
  | _ => false
def NW : List Cond := lw_tbl.filter c_nw
