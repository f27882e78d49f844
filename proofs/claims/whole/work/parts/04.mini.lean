/-! A SMALL MACHINE: the instructions that the system uses, over a heap of numbered cells; 'mx' runs it, with fuel. Its runs are shown to be runs of the machine itself further on. -/
abbrev MCt : Type := (Nat → Int32) ⊕ ((Nat → Int64) ⊕ (Nat → Option Nat))
abbrev MCell : Type := (Nat × Nat × MCt) ⊕ (Nat × List Value)
/-- cells made, elements made, throws, the cells -/
abbrev MHp : Type := Nat × Nat × Nat × (Nat → MCell)
abbrev MI : Type := Nat × Nat × Nat × Nat × Int32
abbrev MOut : Type := Option Value ⊕ Nat
abbrev MAct : Type := (List Value × List Value × MHp) ⊕ ((Nat × List Value × List Value × MHp) ⊕ ((MOut × MHp) ⊕ (Nat × List Value × List Value)))
def mS : Nat := 200000
def mK : Nat := 100000
def m_upd (c : Nat → MCell) (a : Nat) (x : MCell) : Nat → MCell := fun b => if b = a then x else c b
def m_set (h : MHp) (a : Nat) (x : MCell) : MHp := (h.1, h.2.1, h.2.2.1, m_upd h.2.2.2 a x)
def m_push (h : MHp) (x : MCell) (sl : Nat) : MHp := (h.1 + 1, h.2.1 + sl, h.2.2.1, m_upd h.2.2.2 h.1 x)
def m_pv : Value → Value
  | .long _ => .null
  | .double _ => .null
  | v => v
def m_st1 : List Value → Nat → Value → List Value
  | [], _, _ => []
  | _ :: l, 0, v => v :: l
  | a :: l, 1, v => m_pv a :: m_st1 l 0 v
  | a :: l, i + 2, v => a :: m_st1 l (i + 1) v
def m_st2 : List Value → Nat → Value → List Value
  | _ :: _ :: l, 0, v => v :: .null :: l
  | a :: l, 1, v => m_pv a :: m_st2 l 0 v
  | a :: l, i + 2, v => a :: m_st2 l (i + 1) v
  | _, _, _ => []
def m_c (c : Nat) (x y : Int32) : Bool := match c with
  | 0 => decide (x = y)
  | 1 => decide (¬ x = y)
  | 2 => decide (x < y)
  | 3 => decide (y ≤ x)
  | 4 => decide (y < x)
  | _ => decide (x ≤ y)
def m_bin (o : Nat) (x y : Int32) : Int32 := match o with
  | 0 => x + y
  | 1 => x - y
  | 2 => x * y
  | 3 => x &&& y
  | 4 => x ||| y
  | 5 => x ^^^ y
  | 6 => x <<< (y &&& 31)
  | 7 => x >>> (y &&& 31)
  | _ => (x.toUInt32 >>> (y.toUInt32 &&& Int32.toUInt32 31)).toInt32
def m_in (i : Int32) (n : Nat) : Bool := decide (¬ i < 0) && decide (i.toNatClampNeg < n)
def m_lcmp (x y : Int64) : Int32 := if y < x then 1 else if x = y then 0 else -1
def m_sel (t : List (Int × Nat)) (d : Nat) (x : Int) : Nat := match t with
  | [] => d
  | (k, L) :: t => if x = k then L else m_sel t d x
def m_n (ls st : List Value) (h : MHp) : Option MAct := some (.inl (ls, st, h))
def m_j (L : Nat) (ls st : List Value) (h : MHp) : Option MAct := some (.inr (.inl (L, ls, st, h)))
def m_d (r : MOut) (h : MHp) : Option MAct := some (.inr (.inr (.inl (r, h))))
def m_k (y : Nat) (as st : List Value) : Option MAct := some (.inr (.inr (.inr (y, as, st))))
section Mini
/-! the program's own tables: switches, texts, the class of an object that a method is called on, the class's fields at their start -/
variable (tsw : Nat → List (Int × Nat) × Nat) (txt : Nat → List Int32) (mcl : Nat → Nat) (dfl : Nat → List Value)
def m_ld (h : MHp) (a : Nat) (i : Int32) : Option Int32 := if a < h.1 ∨ a = mS then match h.2.2.2 a with
  | .inl (0, n, .inl f) => if m_in i n then some (f i.toNatClampNeg) else none
  | _ => none else none
def m_arr (i : MI) (ls st : List Value) (h : MHp) : Option MAct := match i with
  | (25, _, _, _, _) => match st with
    | .int i :: .ref a :: st => match m_ld h a i with
      | some x => m_n ls (.int x :: st) h
      | none => none
    | _ => none
  | (26, _, _, _, _) => match st with
    | .int x :: .int i :: .ref a :: st => if a < h.1 then match h.2.2.2 a with
      | .inl (0, n, .inl f) => if m_in i n then m_n ls st (m_set h a (.inl (0, n, .inl (upd f i.toNatClampNeg x)))) else none
      | _ => none else none
    | _ => none
  | (27, _, _, _, _) => match st with
    | .int i :: .ref a :: st => if a < h.1 then match h.2.2.2 a with
      | .inl (2, n, .inl f) => if m_in i n then m_n ls (.int (f i.toNatClampNeg) :: st) h else none
      | _ => none else none
    | _ => none
  | (28, _, _, _, _) => match st with
    | .int x :: .int i :: .ref a :: st => if a < h.1 then match h.2.2.2 a with
      | .inl (2, n, .inl f) => if m_in i n && (decide (x = 0) || decide (x = 1)) then m_n ls st (m_set h a (.inl (2, n, .inl (upd f i.toNatClampNeg x)))) else none
      | _ => none else none
    | _ => none
  | (29, _, _, _, _) => match st with
    | .int i :: .ref a :: st => if a < h.1 then match h.2.2.2 a with
      | .inl (1, n, .inr (.inl f)) => if m_in i n then m_n ls (.long (f i.toNatClampNeg) :: st) h else none
      | _ => none else none
    | _ => none
  | (30, _, _, _, _) => match st with
    | .long x :: .int i :: .ref a :: st => if a < h.1 then match h.2.2.2 a with
      | .inl (1, n, .inr (.inl f)) => if m_in i n then m_n ls st (m_set h a (.inl (1, n, .inr (.inl (vp_updL f i.toNatClampNeg x))))) else none
      | _ => none else none
    | _ => none
  | (31, tg, _, _, _) => match st with
    | .int i :: .ref a :: st => if a < h.1 then match h.2.2.2 a with
      | .inl (t, n, .inr (.inr f)) => if t = tg ∧ m_in i n = true then match f i.toNatClampNeg with
        | some b => m_n ls (.ref b :: st) h
        | none => none else none
      | _ => none else none
    | _ => none
  | (32, _, _, _, _) => match st with
    | .ref v :: .int i :: .ref a :: st => if a < h.1 ∧ v < h.1 then match h.2.2.2 a, h.2.2.2 v with
      | .inl (4, n, .inr (.inr f)), .inr (0, _) => if m_in i n then m_n ls st (m_set h a (.inl (4, n, .inr (.inr (va_up f i.toNatClampNeg (some v)))))) else none
      | _, _ => none else none
    | _ => none
  | (33, _, _, _, _) => match st with
    | .ref a :: st => if a < h.1 ∨ a = mS then match h.2.2.2 a with
      | .inl (0, n, .inl _) => m_n ls (.int (Int32.ofNat n) :: st) h
      | _ => none else none
    | _ => none
  | _ => none
def m_obj (i : MI) (ls st : List Value) (h : MHp) : Option MAct := match i with
  | (34, f, ci, _, _) => match st with
    | .ref a :: st => if a < h.1 then match h.2.2.2 a with
      | .inr (c, fs) => if c = ci then match fs[f]? with
        | some w => m_n ls (w :: st) h
        | none => none else none
      | _ => none else none
    | _ => none
  | (35, f, ci, _, kd) => match st with
    | w :: .ref a :: st => if a < h.1 then match h.2.2.2 a with
      | .inr (c, fs) => if c = ci ∧ f < fs.length then match w with
        | .int x => if kd = 0 ∨ (kd = 3 ∧ (x = 0 ∨ x = 1)) then m_n ls st (m_set h a (.inr (c, fs.set f (.int x)))) else none
        | .ref b => if kd = 1 ∨ kd = 2 then m_n ls st (m_set h a (.inr (c, fs.set f (.ref b)))) else none
        | _ => none else none
      | _ => none else none
    | _ => none
  | (36, ci, _, _, _) => if h.2.2.1 = 0 ∧ h.1 < 50000 then m_n ls (.ref h.1 :: st) (m_push h (.inr (ci, dfl ci)) (dfl ci).length) else none
  | (37, tg, _, _, _) => match st with
    | .int n :: st => if h.2.2.1 = 0 ∧ h.1 < 50000 ∧ ¬ n < 0 ∧ n.toNatClampNeg < 100000 then match tg with
      | 0 => m_n ls (.ref h.1 :: st) (m_push h (.inl (0, n.toNatClampNeg, .inl (fun _ => 0))) n.toNatClampNeg)
      | 1 => m_n ls (.ref h.1 :: st) (m_push h (.inl (1, n.toNatClampNeg, .inr (.inl (fun _ => 0)))) n.toNatClampNeg)
      | 2 => m_n ls (.ref h.1 :: st) (m_push h (.inl (2, n.toNatClampNeg, .inl (fun _ => 0))) n.toNatClampNeg)
      | _ => none else none
    | _ => none
  | (38, _, _, _, _) => match st with
    | .int n :: st => if h.2.2.1 = 0 ∧ h.1 < 50000 ∧ ¬ n < 0 ∧ n.toNatClampNeg < 100000 then m_n ls (.ref h.1 :: st) (m_push h (.inl (4, n.toNatClampNeg, .inr (.inr (fun _ => none)))) n.toNatClampNeg) else none
    | _ => none
  | (39, _, _, _, _) => match st with
    | .int k :: .int n :: st => if h.2.2.1 = 0 ∧ h.1 < 50000 ∧ ¬ n < 0 ∧ n.toNatClampNeg < 1000 ∧ ¬ k < 0 ∧ k.toNatClampNeg < 1000 then
        m_n ls (.ref h.1 :: st) (h.1 + 1 + n.toNatClampNeg, h.2.1 + n.toNatClampNeg + n.toNatClampNeg * k.toNatClampNeg, 0, fun a => if a = h.1 then .inl (3, n.toNatClampNeg, .inr (.inr (fun i => if i < n.toNatClampNeg then some (h.1 + 1 + i) else none))) else if h.1 < a ∧ a < h.1 + 1 + n.toNatClampNeg then .inl (0, k.toNatClampNeg, .inl (fun _ => 0)) else h.2.2.2 a) else none
    | _ => none
  | _ => none
def m_lib (i : MI) (ls st : List Value) (h : MHp) : Option MAct := match i with
  | (44, _, _, _, _) => match st with
    | .ref _ :: st => if st.length ≤ 4 then m_n ls st h else none
    | _ => none
  | (45, o, _, _, _) => match st with
    | .int y :: .int x :: st => if st.length ≤ 4 then m_n ls (.int (if o = 0 then (if y < x then y else x) else (if x < y then y else x)) :: st) h else none
    | _ => none
  | (46, _, _, _, _) => match st with
    | .int n :: .int dp :: .ref b :: .int sp :: .ref a :: st => if st.length ≤ 4 ∧ a < h.1 ∧ b < h.1 then match h.2.2.2 a, h.2.2.2 b with
      | .inl (0, n0, .inl f), .inl (0, n1, .inl g) => if ¬ sp < 0 ∧ ¬ dp < 0 ∧ ¬ n < 0 ∧ sp.toNatClampNeg + n.toNatClampNeg ≤ n0 ∧ dp.toNatClampNeg + n.toNatClampNeg ≤ n1 then
          m_n ls st (m_set h b (.inl (0, n1, .inl (va_cpy f g sp.toNatClampNeg dp.toNatClampNeg n.toNatClampNeg)))) else none
      | _, _ => none else none
    | _ => none
  | (47, _, _, _, _) => match st with
    | .ref a :: st => if mK ≤ a ∧ a < mK + 1000 ∧ st.length ≤ 4 ∧ 0 < (txt (a - mK)).length then m_n ls (.int (Int32.ofNat (txt (a - mK)).length) :: st) h else none
    | _ => none
  | (48, _, _, _, _) => match st with
    | .int i :: .ref a :: st => if mK ≤ a ∧ a < mK + 1000 ∧ st.length ≤ 4 ∧ m_in i (txt (a - mK)).length = true then m_n ls (.int ((txt (a - mK)).getD i.toNatClampNeg 0) :: st) h else none
    | _ => none
  | (49, j, _, _, _) => if j < 1000 then m_n ls (.ref (mK + j) :: st) h else none
  | _ => none
def m_call (i : MI) (st : List Value) (h : MHp) : Option MAct := match i with
  | (40, y, n, _, _) => match st.drop n with
    | .ref a :: rest => if rest.length ≤ 4 ∧ a < h.1 then match h.2.2.2 a with
      | .inr (c, _) => if c = mcl y then m_k y (.ref a :: (st.take n).reverse) rest else none
      | _ => none else none
    | _ => none
  | (41, y, n, _, _) => if n ≤ st.length ∧ (st.drop n).length ≤ 4 then m_k y (st.take n).reverse (st.drop n) else none
  | (42, y, n, _, _) => match st.drop n with
    | .ref a :: rest => if rest.length ≤ 4 ∧ a < h.1 then m_k y (.ref a :: (st.take n).reverse) rest else none
    | _ => none
  | (43, y, n, _, _) => match st.drop n with
    | .ref a :: rest => if rest.length ≤ 4 ∧ a < h.1 then m_k y (.ref a :: (st.take n).reverse) rest else none
    | _ => none
  | _ => none
def m_step (i : MI) (ls st : List Value) (h : MHp) : Option MAct := match i with
  | (0, _, _, _, v) => m_n ls (.int v :: st) h
  | (1, n, _, _, _) => m_n ls (.long (Int64.ofNat n) :: st) h
  | (2, j, _, _, _) => match ls[j]? with
    | some (.int x) => m_n ls (.int x :: st) h
    | _ => none
  | (3, j, _, _, _) => match ls[j]? with
    | some (.long x) => m_n ls (.long x :: st) h
    | _ => none
  | (4, j, _, _, _) => match ls[j]? with
    | some (.ref x) => m_n ls (.ref x :: st) h
    | _ => none
  | (5, j, _, _, _) => match st with
    | .int x :: st => m_n (m_st1 ls j (.int x)) st h
    | _ => none
  | (6, j, _, _, _) => match st with
    | .long x :: st => m_n (m_st2 ls j (.long x)) st h
    | _ => none
  | (7, j, _, _, _) => match st with
    | .ref x :: st => m_n (m_st1 ls j (.ref x)) st h
    | _ => none
  | (8, j, _, _, v) => match ls[j]? with
    | some (.int x) => m_n (m_st1 ls j (.int (x + v))) st h
    | _ => none
  | (9, o, _, _, _) => match st with
    | .int y :: .int x :: st => m_n ls (.int (m_bin o x y) :: st) h
    | _ => none
  | (10, o, _, _, _) => match st with
    | .int y :: .int x :: st => if y = 0 then none else m_n ls (.int (if o = 0 then x / y else x - x / y * y) :: st) h
    | _ => none
  | (11, _, _, _, _) => match st with
    | .int x :: st => m_n ls (.int (-x) :: st) h
    | _ => none
  | (12, o, _, _, _) => match st with
    | .long y :: .long x :: st => m_n ls (.long (if o = 0 then x ||| y else x * y) :: st) h
    | _ => none
  | (13, _, _, _, _) => match st with
    | .int y :: .long x :: st => m_n ls (.long (x <<< (y.toInt64 &&& 63)) :: st) h
    | _ => none
  | (14, _, _, _, _) => match st with
    | .long y :: .long x :: st => if y = 0 then none else m_n ls (.long (x / y) :: st) h
    | _ => none
  | (15, _, _, _, _) => match st with
    | .int x :: st => m_n ls (.long x.toInt64 :: st) h
    | _ => none
  | (16, _, _, _, _) => match st with
    | .long x :: st => m_n ls (.int x.toInt32 :: st) h
    | _ => none
  | (17, _, _, _, _) => match st with
    | .long y :: .long x :: st => m_n ls (.int (m_lcmp x y) :: st) h
    | _ => none
  | (18, _, _, _, _) => match st with
    | .int x :: st => m_n ls (.int x :: .int x :: st) h
    | .ref x :: st => m_n ls (.ref x :: .ref x :: st) h
    | _ => none
  | (19, _, _, _, _) => match st with
    | .int x :: .ref y :: st => m_n ls (.int x :: .ref y :: .int x :: .ref y :: st) h
    | _ => none
  | (20, _, _, _, _) => match st with
    | .int _ :: st => m_n ls st h
    | .ref _ :: st => m_n ls st h
    | _ => none
  | (21, c, L, _, _) => match st with
    | .int x :: st => if m_c c x 0 then m_j L ls st h else m_n ls st h
    | _ => none
  | (22, c, L, _, _) => match st with
    | .int y :: .int x :: st => if m_c c x y then m_j L ls st h else m_n ls st h
    | _ => none
  | (23, L, _, _, _) => m_j L ls st h
  | (24, j, _, _, _) => match st with
    | .int x :: st => m_j (m_sel (tsw j).1 (tsw j).2 x.toInt) ls st h
    | _ => none
  | (50, b, _, _, _) => match st with
    | [.int x] => if b = 0 ∨ x = 0 ∨ x = 1 then m_d (.inl (some (.int x))) h else none
    | _ => none
  | (51, _, _, _, _) => match st with
    | [.long x] => m_d (.inl (some (.long x))) h
    | _ => none
  | (52, _, _, _, _) => match st with
    | [] => m_d (.inl none) h
    | _ => none
  | (53, E, _, _, _) => match st with
    | [] => m_d (.inr E) (h.1, h.2.1, h.2.2.1 + 1, h.2.2.2)
    | _ => none
  | (o, _, _, _, _) => if o < 34 then m_arr i ls st h else if o < 40 then m_obj dfl i ls st h else if o < 44 then m_call mcl i st h else m_lib txt i ls st h
/-! the program: a method's code, with the places of its instructions; where a thrown exception is caught, and what the handler returns; how many places for variables -/
variable (cd : Nat → List (Nat × MI)) (hnd : Nat → Nat → Nat → Option (Option Int32)) (mxl : Nat → Nat)
def m_suf (k L : Nat) : List (Nat × MI) := (cd k).dropWhile (fun e => e.1 != L)
def m_spread : List Value → List Value
  | [] => []
  | .long x :: l => .long x :: .null :: m_spread l
  | .double x :: l => .double x :: .null :: m_spread l
  | v :: l => v :: m_spread l
def m_pad : Nat → List Value → List Value
  | 0, _ => []
  | n + 1, [] => .null :: m_pad n []
  | n + 1, v :: l => v :: m_pad n l
def m_ent (y : Nat) (as : List Value) : List Value := m_pad (mxl y) (m_spread as)
def mx : Nat → Nat → List (Nat × MI) → List Value → List Value → MHp → Option (MOut × MHp)
  | 0, _, _, _, _, _ => none
  | _ + 1, _, [], _, _, _ => none
  | n + 1, k, (pc, i) :: is, ls, st, h => match m_step tsw txt mcl dfl i ls st h with
    | none => none
    | some (.inl (ls', st', h')) => mx n k is ls' st' h'
    | some (.inr (.inl (L, ls', st', h'))) => mx n k (m_suf cd k L) ls' st' h'
    | some (.inr (.inr (.inl rh))) => some rh
    | some (.inr (.inr (.inr (y, as, st')))) => if (m_spread as).length ≤ mxl y then match mx n y (cd y) (m_ent mxl y as) [] h with
      | none => none
      | some (.inl v, h') => mx n k is ls (v.toList ++ st') h'
      | some (.inr E, h') => match hnd k pc E with
        | none => none
        | some none => some (.inr E, h')
        | some (some w) => some (.inl (some (.int w)), h') else none
theorem mx_mono {n : Nat} : ∀ {k : Nat} {is : List (Nat × MI)} {ls st : List Value} {h : MHp} {r : MOut × MHp}, mx tsw txt mcl dfl cd hnd mxl n k is ls st h = some r → ∀ m, mx tsw txt mcl dfl cd hnd mxl (n + m) k is ls st h = some r := by
  induction n with
  | zero => intro k is ls st h r hr; cases hr
  | succ n ih =>
    intro k is ls st h r hr m
    rw [show n + 1 + m = (n + m) + 1 by omega]
    cases is with
    | nil => cases hr
    | cons e is =>
      obtain ⟨pc, i⟩ := e
      unfold mx at hr ⊢
      rcases hs : m_step tsw txt mcl dfl i ls st h with _ | ⟨ls', st', h'⟩ | ⟨L, ls', st', h'⟩ | rh | ⟨y, as, st'⟩
      · rw [hs] at hr; cases hr
      · rw [hs] at hr; exact ih hr m
      · rw [hs] at hr; exact ih hr m
      · rw [hs] at hr; exact hr
      · rw [hs] at hr
        dsimp only at hr ⊢
        split at hr
        · rename_i hle
          rw [if_pos hle]
          rcases hc : mx tsw txt mcl dfl cd hnd mxl n y (cd y) (m_ent mxl y as) [] h with _ | ⟨v | E, h'⟩
          · rw [hc] at hr; cases hr
          · rw [hc] at hr
            rw [ih hc m]
            exact ih hr m
          · rw [hc] at hr
            rw [ih hc m]
            exact hr
        · cases hr
/-- it ends, and so -/
def EXg (k : Nat) (is : List (Nat × MI)) (ls st : List Value) (h : MHp) (Q : MOut → MHp → Prop) : Prop := ∃ n r h', mx tsw txt mcl dfl cd hnd mxl n k is ls st h = some (r, h') ∧ Q r h'
theorem EXg_next {k pc : Nat} {i : MI} {is : List (Nat × MI)} {ls st ls' st' : List Value} {h h' : MHp} {Q : MOut → MHp → Prop} (hs : m_step tsw txt mcl dfl i ls st h = some (.inl (ls', st', h'))) :
    EXg tsw txt mcl dfl cd hnd mxl k ((pc, i) :: is) ls st h Q ↔ EXg tsw txt mcl dfl cd hnd mxl k is ls' st' h' Q := by
  constructor
  · rintro ⟨n, r, h2, e, q⟩
    cases n with
    | zero => cases e
    | succ n => unfold mx at e; rw [hs] at e; exact ⟨n, r, h2, e, q⟩
  · rintro ⟨n, r, h2, e, q⟩
    exact ⟨n + 1, r, h2, by unfold mx; rw [hs]; exact e, q⟩
theorem EXg_jump {k pc L : Nat} {i : MI} {is : List (Nat × MI)} {ls st ls' st' : List Value} {h h' : MHp} {Q : MOut → MHp → Prop} (hs : m_step tsw txt mcl dfl i ls st h = some (.inr (.inl (L, ls', st', h')))) :
    EXg tsw txt mcl dfl cd hnd mxl k ((pc, i) :: is) ls st h Q ↔ EXg tsw txt mcl dfl cd hnd mxl k (m_suf cd k L) ls' st' h' Q := by
  constructor
  · rintro ⟨n, r, h2, e, q⟩
    cases n with
    | zero => cases e
    | succ n => unfold mx at e; rw [hs] at e; exact ⟨n, r, h2, e, q⟩
  · rintro ⟨n, r, h2, e, q⟩
    exact ⟨n + 1, r, h2, by unfold mx; rw [hs]; exact e, q⟩
theorem EXg_done {k pc : Nat} {i : MI} {is : List (Nat × MI)} {ls st : List Value} {h h' : MHp} {r : MOut} {Q : MOut → MHp → Prop} (hs : m_step tsw txt mcl dfl i ls st h = some (.inr (.inr (.inl (r, h'))))) :
    EXg tsw txt mcl dfl cd hnd mxl k ((pc, i) :: is) ls st h Q ↔ Q r h' := by
  constructor
  · rintro ⟨n, r2, h2, e, q⟩
    cases n with
    | zero => cases e
    | succ n => unfold mx at e; rw [hs] at e; cases e; exact q
  · intro q
    exact ⟨1, r, h', by unfold mx; rw [hs], q⟩
theorem EXg_stuck {k pc : Nat} {i : MI} {is : List (Nat × MI)} {ls st : List Value} {h : MHp} {Q : MOut → MHp → Prop} (hs : m_step tsw txt mcl dfl i ls st h = none) :
    ¬ EXg tsw txt mcl dfl cd hnd mxl k ((pc, i) :: is) ls st h Q := by
  rintro ⟨n, r, h2, e, q⟩
  cases n with
  | zero => cases e
  | succ n => unfold mx at e; rw [hs] at e; cases e
/-- what a call's end means to the caller -/
def EXg_back (k pc : Nat) (is : List (Nat × MI)) (ls st' : List Value) (Q : MOut → MHp → Prop) : MOut → MHp → Prop := fun r h' => match r with
  | .inl v => EXg tsw txt mcl dfl cd hnd mxl k is ls (v.toList ++ st') h' Q
  | .inr E => match hnd k pc E with
    | none => False
    | some none => Q (.inr E) h'
    | some (some w) => Q (.inl (some (.int w))) h'
theorem EXg_call {k pc y : Nat} {i : MI} {is : List (Nat × MI)} {ls st as st' : List Value} {h : MHp} {Q : MOut → MHp → Prop} (hs : m_step tsw txt mcl dfl i ls st h = some (.inr (.inr (.inr (y, as, st'))))) :
    EXg tsw txt mcl dfl cd hnd mxl k ((pc, i) :: is) ls st h Q ↔ (m_spread as).length ≤ mxl y ∧ EXg tsw txt mcl dfl cd hnd mxl y (cd y) (m_ent mxl y as) [] h (EXg_back tsw txt mcl dfl cd hnd mxl k pc is ls st' Q) := by
  constructor
  · rintro ⟨n, r, h2, e, q⟩
    cases n with
    | zero => cases e
    | succ n =>
      unfold mx at e; rw [hs] at e
      dsimp only at e
      split at e
      · rename_i hle
        refine ⟨hle, ?_⟩
        rcases hc : mx tsw txt mcl dfl cd hnd mxl n y (cd y) (m_ent mxl y as) [] h with _ | ⟨v | E, h'⟩
        · rw [hc] at e; cases e
        · rw [hc] at e
          exact ⟨n, _, _, hc, n, r, h2, e, q⟩
        · rw [hc] at e
          refine ⟨n, _, _, hc, ?_⟩
          dsimp only [EXg_back] at e ⊢
          rcases hh : hnd k pc E with _ | _ | w
          · rw [hh] at e; cases e
          · rw [hh] at e; cases e; exact q
          · rw [hh] at e; cases e; exact q
      · cases e
  · rintro ⟨hle, n, r, h1, e, q⟩
    rcases r with v | E
    · obtain ⟨n2, r2, h2, e2, q2⟩ := q
      refine ⟨n + n2 + 1, r2, h2, ?_, q2⟩
      unfold mx; rw [hs]
      dsimp only
      rw [if_pos hle, mx_mono tsw txt mcl dfl cd hnd mxl e n2]
      dsimp only
      rw [Nat.add_comm n n2]
      exact mx_mono tsw txt mcl dfl cd hnd mxl e2 n
    · dsimp only [EXg_back] at q
      rcases hh : hnd k pc E with _ | _ | w
      · rw [hh] at q; exact q.elim
      · rw [hh] at q
        exact ⟨n + 1, _, _, by unfold mx; rw [hs]; dsimp only; rw [if_pos hle, e]; dsimp only; rw [hh], q⟩
      · rw [hh] at q
        exact ⟨n + 1, _, _, by unfold mx; rw [hs]; dsimp only; rw [if_pos hle, e]; dsimp only; rw [hh], q⟩
/-- what is made is never unmade -/
def m_le (h h' : MHp) : Prop := h.1 ≤ h'.1 ∧ h.2.1 ≤ h'.2.1 ∧ h.2.2.1 ≤ h'.2.2.1
theorem m_arr_le {i : MI} {ls st ls' st' : List Value} {h h' : MHp} (hs : m_arr i ls st h = some (.inl (ls', st', h'))) : m_le h h' := by
  unfold m_arr m_n at hs
  repeat' split at hs
  all_goals first | (cases hs; done) | (cases hs; exact ⟨Nat.le_refl _, Nat.le_refl _, Nat.le_refl _⟩)
theorem m_obj_le {i : MI} {ls st ls' st' : List Value} {h h' : MHp} (hs : m_obj dfl i ls st h = some (.inl (ls', st', h'))) : m_le h h' := by
  unfold m_obj m_n at hs
  repeat' split at hs
  all_goals first | (cases hs; done) | (cases hs; exact ⟨Nat.le_refl _, Nat.le_refl _, Nat.le_refl _⟩) | (cases hs; exact ⟨Nat.le_succ _, Nat.le_add_right _ _, Nat.le_refl _⟩) | (cases hs; rename_i h0; refine ⟨?_, ?_, ?_⟩ <;> simp only [] <;> omega)
theorem m_lib_le {i : MI} {ls st ls' st' : List Value} {h h' : MHp} (hs : m_lib txt i ls st h = some (.inl (ls', st', h'))) : m_le h h' := by
  unfold m_lib m_n at hs
  repeat' split at hs
  all_goals first | (cases hs; done) | (cases hs; exact ⟨Nat.le_refl _, Nat.le_refl _, Nat.le_refl _⟩)
theorem m_arr_k {i : MI} {ls st : List Value} {h : MHp} {r : (Nat × List Value × List Value × MHp) ⊕ ((MOut × MHp) ⊕ (Nat × List Value × List Value))} : m_arr i ls st h ≠ some (.inr r) := by
  intro hs
  unfold m_arr m_n at hs
  repeat' split at hs
  all_goals cases hs
theorem m_obj_k {i : MI} {ls st : List Value} {h : MHp} {r : (Nat × List Value × List Value × MHp) ⊕ ((MOut × MHp) ⊕ (Nat × List Value × List Value))} : m_obj dfl i ls st h ≠ some (.inr r) := by
  intro hs
  unfold m_obj m_n at hs
  repeat' split at hs
  all_goals cases hs
theorem m_lib_k {i : MI} {ls st : List Value} {h : MHp} {r : (Nat × List Value × List Value × MHp) ⊕ ((MOut × MHp) ⊕ (Nat × List Value × List Value))} : m_lib txt i ls st h ≠ some (.inr r) := by
  intro hs
  unfold m_lib m_n at hs
  repeat' split at hs
  all_goals cases hs
theorem m_call_k {i : MI} {st : List Value} {h : MHp} {a : MAct} (hs : m_call mcl i st h = some a) : ∃ y as rest, a = .inr (.inr (.inr (y, as, rest))) := by
  unfold m_call m_k at hs
  repeat' split at hs
  all_goals first | (cases hs; done) | (cases hs; exact ⟨_, _, _, rfl⟩)
def m_post (h : MHp) (a : MAct) : Prop := match a with
  | .inl (_, _, h') => m_le h h'
  | .inr (.inl (_, _, _, h')) => h' = h
  | .inr (.inr (.inl (_, h'))) => m_le h h'
  | .inr (.inr (.inr _)) => True
theorem m_step_le {i : MI} {ls st : List Value} {h : MHp} {a : MAct} (hs : m_step tsw txt mcl dfl i ls st h = some a) : m_post h a := by
  unfold m_step m_n m_j m_d at hs
  repeat' split at hs
  all_goals first
    | (cases hs; done)
    | (cases hs; exact ⟨Nat.le_refl _, Nat.le_refl _, Nat.le_refl _⟩)
    | (cases hs; exact rfl)
    | (cases hs; exact ⟨Nat.le_refl _, Nat.le_refl _, Nat.le_succ _⟩)
    | (rcases a with ⟨ls', st', h'⟩ | r
       · exact m_arr_le hs
       · exact absurd hs m_arr_k)
    | (rcases a with ⟨ls', st', h'⟩ | r
       · exact m_obj_le dfl hs
       · exact absurd hs (m_obj_k dfl))
    | (rcases a with ⟨ls', st', h'⟩ | r
       · exact m_lib_le txt hs
       · exact absurd hs (m_lib_k txt))
    | (obtain ⟨y, as, rest, rfl⟩ := m_call_k mcl hs; trivial)
theorem mx_le {n : Nat} : ∀ {k : Nat} {is : List (Nat × MI)} {ls st : List Value} {h : MHp} {r : MOut} {h' : MHp}, mx tsw txt mcl dfl cd hnd mxl n k is ls st h = some (r, h') → m_le h h' := by
  induction n with
  | zero => intro k is ls st h r h' hr; cases hr
  | succ n ih =>
    intro k is ls st h r h' hr
    cases is with
    | nil => cases hr
    | cons e is =>
      obtain ⟨pc, i⟩ := e
      unfold mx at hr
      rcases hs : m_step tsw txt mcl dfl i ls st h with _ | ⟨ls', st', h1⟩ | ⟨L, ls', st', h1⟩ | rh | ⟨y, as, st'⟩
      · rw [hs] at hr; cases hr
      · have h0 := m_step_le tsw txt mcl dfl hs
        rw [hs] at hr
        have h2 := ih hr
        simp only [m_post, m_le] at h0 h2 ⊢
        omega
      · have h0 := m_step_le tsw txt mcl dfl hs
        simp only [m_post] at h0
        subst h0
        rw [hs] at hr
        exact ih hr
      · have h0 := m_step_le tsw txt mcl dfl hs
        rw [hs] at hr
        cases hr
        exact h0
      · rw [hs] at hr
        dsimp only at hr
        split at hr
        · rcases hc : mx tsw txt mcl dfl cd hnd mxl n y (cd y) (m_ent mxl y as) [] h with _ | ⟨v | E, h1⟩
          · rw [hc] at hr; cases hr
          · rw [hc] at hr
            have h1 := ih hc
            have h2 := ih hr
            simp only [m_le] at h1 h2 ⊢
            omega
          · rw [hc] at hr
            dsimp only at hr
            rcases hh : hnd k pc E with _ | _ | w
            · rw [hh] at hr; cases hr
            · rw [hh] at hr; cases hr; exact ih hc
            · rw [hh] at hr; cases hr; exact ih hc
        · cases hr
end Mini
