/-! THE LAW'S ENTRY -/
def R_law : String := "ListedGoodsLaw"
def lw_P (b : Addr) (xs : List Int32) (args : Array Value) (s : State) : Prop := args = #[.ref b] ∧ s.IntsAt b xs ∧ xs.length ≤ 3072 ∧ (Jvm.Cond.and given_1 narrow_1).before args s = true
def lw_Q (_ : Array Value) (s : State) (o : Outcome) (t : State) : Prop := o = .returned (some (.int 1)) ∧ Framed s o t [] 601024 7293034
def lw_Z (below : List Frame) (a : Array Value) (s : State) : State → Prop := fun t => ∃ o, t.status = .running ∧ Ended t below o ∧ lw_Q a s o t
/-- the law's own end, with 1 on the stack, nothing written that was there before, its room as the claim has it -/
theorem lw_ret {p : Program} {l : Launch} {e : Env} {s : State} {m : MethodId} {below : List Frame} {meth : Method} {c : Code} {b : Nat} (hx : p.tables.exec = Jvm.exec) (hb : c.code = code) (hr : meth.sig.returnType = ret) (hlocks : meth.locks = false) {pc : Nat} {H : Heap} {ls : Array Slot} (hdg : decode code pc = .ok (.ireturn, 1)) : W p l e room_1 s m #[Value.ref b] below meth c H [] 601024 7293034 (lw_Z below #[Value.ref b] s) (F0 m pc ls [.int 1]) := by
  intro T hT X
  obtain ⟨fs, hret, hrun, hended, hW, hframe⟩ := X.leave (v := some (.int 1)) (hlocks := hlocks) (fun h => by rw [hr] at h; cases h)
  have hmeth' : T.vm.method? m = some meth := X.method'
  refine ⟨T.setFrames fs, ?_, .returned (some (.int 1)), hrun, hended, rfl, ⟨_, rfl⟩, hW, hframe⟩
  jvm_step X.here [X.here.top, hx, hb, hdg, hmeth', hr, ret, narrow_b1]
  (try refine ⟨rfl, ?_⟩); (try refine ⟨rfl, ?_⟩)
  first | (intro acts; rw [hret _ acts rfl rfl rfl]) | rw [hret _ _ rfl rfl rfl]
  exact Steps.refl _
/-- what holds at the law's entry: the machine, the code, the tables' words (any of lw_tbl by 'hts w (by decide +kernel)'), the script of L ints xs at the cell b, what the Statement gives of the start (any of its parts by flat_of_before) -/
def lw_At (p : Program) (s : State) (m : MethodId) (meth : Method) (c : Code) (b L : Nat) (xs : Nat → Int32) : Prop :=
  p.tables.exec = Jvm.exec ∧ c.code = code ∧ meth.sig.returnType = ret ∧ c.maxLocals = 7 ∧ s.vm.findClass R_law = some m.cls ∧ (∀ w ∈ lw_tbl, w.before #[Value.ref b] s = true) ∧ va_X b L xs s s.heap ∧ b < s.heap.size ∧ meth.locks = false ∧ (Jvm.Cond.and given_1 narrow_1).before #[Value.ref b] s = true
theorem e_arr {s : State} {args : Array Value} {ty : FieldType} (hno : ∀ C, ty ≠ .object C) (h : (Cond.arrayClass ty).before args s = true) : ∃ cA, ArrOfT s cA ty ∧ va_RA s cA ty := by
  obtain ⟨c, k, comp, h1, h2, h3⟩ := Cond.arrayClass_spec h
  refine ⟨c, fun n z => ⟨(fun k h => by cases h), k, h2, comp, h3⟩, ?_⟩
  cases ty <;> first | exact h1 | exact absurd rfl (hno _)
def e_sw (own : String) (k : Nat) (bs : List Int32) : List Cond := .exactly (.string own k) "java/lang/String" :: .eq (.field (.string own k) "java/lang/String" "coder" "B") (.int 0) :: .arrayOf (.field (.string own k) "java/lang/String" "value" "[B") .byte :: .eq (.length (.field (.string own k) "java/lang/String" "value" "[B")) (.int (Int32.ofNat bs.length)) :: (List.range bs.length).map (fun j => .eq (.elem (.field (.string own k) "java/lang/String" "value" "[B") (.int (Int32.ofNat j))) (.int (bs.getD j 0)))
theorem e_str {args : Array Value} {s : State} {own : String} {k : Nat} {bs : List Int32} {A : Nat → Prop} (h : ∀ w ∈ e_sw own k bs, w.before args s = true) (hN : bs.length < 2 ^ 31) (hA : ∀ a : Nat, a < s.heap.size → ¬ A a) :
    ∃ a aV : Nat, (Term.string own k).eval args s none [] s = some (.ref a) ∧ va_O "java/lang/String" a A s s.heap ∧ va_OF "java/lang/String" "coder" "B" (.int 0) a A s s.heap ∧ va_OF "java/lang/String" "value" "[B" (.ref aV) a A s s.heap ∧ va_T .byte aV bs.length (fun j => .int (bs.getD j 0)) A s s.heap := by
  have w0 := h _ (List.Mem.head _)
  have w1 := h _ (List.Mem.tail _ (List.Mem.head _))
  have w2 := h _ (List.Mem.tail _ (List.Mem.tail _ (List.Mem.head _)))
  have w3 := h _ (List.Mem.tail _ (List.Mem.tail _ (List.Mem.tail _ (List.Mem.head _))))
  have w4 : ∀ j : Nat, j < bs.length → (Cond.eq (.elem (.field (.string own k) "java/lang/String" "value" "[B") (.int (Int32.ofNat j))) (.int (bs.getD j 0))).before args s = true := fun j hj => h _ (List.Mem.tail _ (List.Mem.tail _ (List.Mem.tail _ (List.Mem.tail _ (List.mem_map.mpr ⟨j, List.mem_range.mpr hj, rfl⟩)))))
  obtain ⟨a, c, cA, kA, q1, q2, q3, q4, q5, q6, -⟩ := Cond.exactly_spec (args := args) (first := s) (o := none) (s := s) (idx := []) (t := .string own k) (cls := "java/lang/String") w0
  obtain ⟨t, ht, hT⟩ := va_Tof (f := fun j => .int (bs.getD j 0)) (A := A) hN w2 (va_eqt w3) (fun j hj => va_eqt (w4 j hj)) hA
  exact ⟨a, t, q1, ⟨cA, q3, q5, by rw [q6]; exact q2, hA a (Array.getElem?_eq_some_iff.mp q3).1⟩, vk_OFof q1 (va_eqt w1) hA, vk_OFof q1 ht hA, hT⟩
def e_TX : List (List Int32) := [[97, 32, 110, 117, 109, 98, 101, 114, 32, 111, 117, 116, 32, 111, 102, 32, 105, 116, 115, 32, 114, 97, 110, 103, 101], [112, 101, 114, 115, 111, 110], [103, 111, 111, 100], [100, 101, 98, 116], [109, 111, 110, 116, 104], [112, 97, 114, 116], [99, 108, 97, 105, 109], [105, 108, 108], [102, 101, 101], [98, 97, 114], [110, 111, 116], [107, 105, 110, 100], [119, 111, 114, 116, 104], [111, 119, 101, 100], [104, 111, 117, 114], [105, 108, 108], [99, 108, 97, 105, 109, 101, 100], [112, 114, 111, 118, 101, 100], [102, 111, 114, 99, 101, 100], [112, 97, 114, 116, 101, 100], [111, 116, 104, 101, 114], [97, 110, 100], [111, 114], [110, 111, 110, 101, 32, 119, 105, 116, 104, 32, 116, 104, 105, 115, 32, 110, 117, 109, 98, 101, 114], [101, 97, 114, 108, 105, 101, 114, 32, 116, 104, 97, 110, 32, 116, 104, 101, 32, 108, 97, 116, 101, 115, 116, 32, 97, 99, 116], [112, 101, 114, 115, 111, 110], [109, 111, 110, 116, 104], [103, 111, 111, 100], [112, 97, 114, 116], [99, 108, 97, 105, 109], [100, 101, 98, 116], [105, 108, 108], [102, 101, 101], [98, 97, 114], [110, 111, 116], [107, 105, 110, 100], [119, 111, 114, 116, 104], [111, 119, 101, 100], [104, 111, 117, 114], [99, 108, 97, 105, 109, 101, 100], [112, 114, 111, 118, 101, 100], [102, 111, 114, 99, 101, 100], [112, 97, 114, 116, 101, 100], [111, 116, 104, 101, 114], [97, 110, 100], [111, 114]]
set_option maxRecDepth 20000 in
theorem e_w_0 : ((flatC (Jvm.Cond.and given_1 narrow_1)).drop 53).take 29 = e_sw "ListedGoods" 354 (e_TX.getD 0 []) := by rfl
set_option maxRecDepth 20000 in
theorem e_w_1 : ((flatC (Jvm.Cond.and given_1 narrow_1)).drop 82).take 10 = e_sw "ListedGoods$HouseReader" 41 (e_TX.getD 1 []) := by rfl
set_option maxRecDepth 20000 in
theorem e_w_2 : ((flatC (Jvm.Cond.and given_1 narrow_1)).drop 92).take 8 = e_sw "ListedGoods$HouseReader" 58 (e_TX.getD 2 []) := by rfl
set_option maxRecDepth 20000 in
theorem e_w_3 : ((flatC (Jvm.Cond.and given_1 narrow_1)).drop 100).take 8 = e_sw "ListedGoods$HouseReader" 66 (e_TX.getD 3 []) := by rfl
set_option maxRecDepth 20000 in
theorem e_w_4 : ((flatC (Jvm.Cond.and given_1 narrow_1)).drop 108).take 9 = e_sw "ListedGoods$HouseReader" 74 (e_TX.getD 4 []) := by rfl
set_option maxRecDepth 20000 in
theorem e_w_5 : ((flatC (Jvm.Cond.and given_1 narrow_1)).drop 117).take 8 = e_sw "ListedGoods$HouseReader" 79 (e_TX.getD 5 []) := by rfl
set_option maxRecDepth 20000 in
theorem e_w_6 : ((flatC (Jvm.Cond.and given_1 narrow_1)).drop 125).take 9 = e_sw "ListedGoods$HouseReader" 84 (e_TX.getD 6 []) := by rfl
set_option maxRecDepth 20000 in
theorem e_w_7 : ((flatC (Jvm.Cond.and given_1 narrow_1)).drop 134).take 7 = e_sw "ListedGoods$HouseReader" 89 (e_TX.getD 7 []) := by rfl
set_option maxRecDepth 20000 in
theorem e_w_8 : ((flatC (Jvm.Cond.and given_1 narrow_1)).drop 141).take 7 = e_sw "ListedGoods$HouseReader" 94 (e_TX.getD 8 []) := by rfl
set_option maxRecDepth 20000 in
theorem e_w_9 : ((flatC (Jvm.Cond.and given_1 narrow_1)).drop 148).take 7 = e_sw "ListedGoods$LawReader" 37 (e_TX.getD 9 []) := by rfl
set_option maxRecDepth 20000 in
theorem e_w_10 : ((flatC (Jvm.Cond.and given_1 narrow_1)).drop 155).take 7 = e_sw "ListedGoods$LawReader" 78 (e_TX.getD 10 []) := by rfl
set_option maxRecDepth 20000 in
theorem e_w_11 : ((flatC (Jvm.Cond.and given_1 narrow_1)).drop 162).take 8 = e_sw "ListedGoods$LawReader" 87 (e_TX.getD 11 []) := by rfl
set_option maxRecDepth 20000 in
theorem e_w_12 : ((flatC (Jvm.Cond.and given_1 narrow_1)).drop 170).take 9 = e_sw "ListedGoods$LawReader" 89 (e_TX.getD 12 []) := by rfl
set_option maxRecDepth 20000 in
theorem e_w_13 : ((flatC (Jvm.Cond.and given_1 narrow_1)).drop 179).take 8 = e_sw "ListedGoods$LawReader" 91 (e_TX.getD 13 []) := by rfl
set_option maxRecDepth 20000 in
theorem e_w_14 : ((flatC (Jvm.Cond.and given_1 narrow_1)).drop 187).take 8 = e_sw "ListedGoods$LawReader" 93 (e_TX.getD 14 []) := by rfl
set_option maxRecDepth 20000 in
theorem e_w_15 : ((flatC (Jvm.Cond.and given_1 narrow_1)).drop 195).take 7 = e_sw "ListedGoods$LawReader" 95 (e_TX.getD 15 []) := by rfl
set_option maxRecDepth 20000 in
theorem e_w_16 : ((flatC (Jvm.Cond.and given_1 narrow_1)).drop 203).take 11 = e_sw "ListedGoods$LawReader" 97 (e_TX.getD 16 []) := by rfl
set_option maxRecDepth 20000 in
theorem e_w_17 : ((flatC (Jvm.Cond.and given_1 narrow_1)).drop 214).take 10 = e_sw "ListedGoods$LawReader" 99 (e_TX.getD 17 []) := by rfl
set_option maxRecDepth 20000 in
theorem e_w_18 : ((flatC (Jvm.Cond.and given_1 narrow_1)).drop 224).take 10 = e_sw "ListedGoods$LawReader" 101 (e_TX.getD 18 []) := by rfl
set_option maxRecDepth 20000 in
theorem e_w_19 : ((flatC (Jvm.Cond.and given_1 narrow_1)).drop 234).take 10 = e_sw "ListedGoods$LawReader" 103 (e_TX.getD 19 []) := by rfl
set_option maxRecDepth 20000 in
theorem e_w_20 : ((flatC (Jvm.Cond.and given_1 narrow_1)).drop 244).take 9 = e_sw "ListedGoods$LawReader" 105 (e_TX.getD 20 []) := by rfl
set_option maxRecDepth 20000 in
theorem e_w_21 : ((flatC (Jvm.Cond.and given_1 narrow_1)).drop 253).take 7 = e_sw "ListedGoods$LawReader" 121 (e_TX.getD 21 []) := by rfl
set_option maxRecDepth 20000 in
theorem e_w_22 : ((flatC (Jvm.Cond.and given_1 narrow_1)).drop 260).take 6 = e_sw "ListedGoods$LawReader" 123 (e_TX.getD 22 []) := by rfl
set_option maxRecDepth 20000 in
theorem e_w_23 : ((flatC (Jvm.Cond.and given_1 narrow_1)).drop 266).take 25 = e_sw "ListedGoods" 347 (e_TX.getD 23 []) := by rfl
set_option maxRecDepth 20000 in
theorem e_w_24 : ((flatC (Jvm.Cond.and given_1 narrow_1)).drop 291).take 31 = e_sw "ListedGoods" 363 (e_TX.getD 24 []) := by rfl
set_option maxRecDepth 20000 in
theorem e_w_25 : ((flatC (Jvm.Cond.and given_1 narrow_1)).drop 322).take 10 = e_sw "ListedGoodsModel" 177 (e_TX.getD 25 []) := by rfl
set_option maxRecDepth 20000 in
theorem e_w_26 : ((flatC (Jvm.Cond.and given_1 narrow_1)).drop 333).take 9 = e_sw "ListedGoodsModel" 182 (e_TX.getD 26 []) := by rfl
set_option maxRecDepth 20000 in
theorem e_w_27 : ((flatC (Jvm.Cond.and given_1 narrow_1)).drop 343).take 8 = e_sw "ListedGoodsModel" 187 (e_TX.getD 27 []) := by rfl
set_option maxRecDepth 20000 in
theorem e_w_28 : ((flatC (Jvm.Cond.and given_1 narrow_1)).drop 352).take 8 = e_sw "ListedGoodsModel" 188 (e_TX.getD 28 []) := by rfl
set_option maxRecDepth 20000 in
theorem e_w_29 : ((flatC (Jvm.Cond.and given_1 narrow_1)).drop 361).take 9 = e_sw "ListedGoodsModel" 193 (e_TX.getD 29 []) := by rfl
set_option maxRecDepth 20000 in
theorem e_w_30 : ((flatC (Jvm.Cond.and given_1 narrow_1)).drop 371).take 8 = e_sw "ListedGoodsModel" 195 (e_TX.getD 30 []) := by rfl
set_option maxRecDepth 20000 in
theorem e_w_31 : ((flatC (Jvm.Cond.and given_1 narrow_1)).drop 380).take 7 = e_sw "ListedGoodsModel" 196 (e_TX.getD 31 []) := by rfl
set_option maxRecDepth 20000 in
theorem e_w_32 : ((flatC (Jvm.Cond.and given_1 narrow_1)).drop 389).take 7 = e_sw "ListedGoodsModel" 198 (e_TX.getD 32 []) := by rfl
set_option maxRecDepth 20000 in
theorem e_w_33 : ((flatC (Jvm.Cond.and given_1 narrow_1)).drop 397).take 7 = e_sw "ListedGoodsModel" 298 (e_TX.getD 33 []) := by rfl
set_option maxRecDepth 20000 in
theorem e_w_34 : ((flatC (Jvm.Cond.and given_1 narrow_1)).drop 405).take 7 = e_sw "ListedGoodsModel" 262 (e_TX.getD 34 []) := by rfl
set_option maxRecDepth 20000 in
theorem e_w_35 : ((flatC (Jvm.Cond.and given_1 narrow_1)).drop 413).take 8 = e_sw "ListedGoodsModel" 277 (e_TX.getD 35 []) := by rfl
set_option maxRecDepth 20000 in
theorem e_w_36 : ((flatC (Jvm.Cond.and given_1 narrow_1)).drop 422).take 9 = e_sw "ListedGoodsModel" 279 (e_TX.getD 36 []) := by rfl
set_option maxRecDepth 20000 in
theorem e_w_37 : ((flatC (Jvm.Cond.and given_1 narrow_1)).drop 432).take 8 = e_sw "ListedGoodsModel" 281 (e_TX.getD 37 []) := by rfl
set_option maxRecDepth 20000 in
theorem e_w_38 : ((flatC (Jvm.Cond.and given_1 narrow_1)).drop 441).take 8 = e_sw "ListedGoodsModel" 283 (e_TX.getD 38 []) := by rfl
set_option maxRecDepth 20000 in
theorem e_w_39 : ((flatC (Jvm.Cond.and given_1 narrow_1)).drop 450).take 11 = e_sw "ListedGoodsModel" 285 (e_TX.getD 39 []) := by rfl
set_option maxRecDepth 20000 in
theorem e_w_40 : ((flatC (Jvm.Cond.and given_1 narrow_1)).drop 462).take 10 = e_sw "ListedGoodsModel" 287 (e_TX.getD 40 []) := by rfl
set_option maxRecDepth 20000 in
theorem e_w_41 : ((flatC (Jvm.Cond.and given_1 narrow_1)).drop 473).take 10 = e_sw "ListedGoodsModel" 289 (e_TX.getD 41 []) := by rfl
set_option maxRecDepth 20000 in
theorem e_w_42 : ((flatC (Jvm.Cond.and given_1 narrow_1)).drop 484).take 10 = e_sw "ListedGoodsModel" 291 (e_TX.getD 42 []) := by rfl
set_option maxRecDepth 20000 in
theorem e_w_43 : ((flatC (Jvm.Cond.and given_1 narrow_1)).drop 495).take 9 = e_sw "ListedGoodsModel" 293 (e_TX.getD 43 []) := by rfl
set_option maxRecDepth 20000 in
theorem e_w_44 : ((flatC (Jvm.Cond.and given_1 narrow_1)).drop 505).take 7 = e_sw "ListedGoodsModel" 273 (e_TX.getD 44 []) := by rfl
set_option maxRecDepth 20000 in
theorem e_w_45 : ((flatC (Jvm.Cond.and given_1 narrow_1)).drop 513).take 6 = e_sw "ListedGoodsModel" 275 (e_TX.getD 45 []) := by rfl
theorem e_sws {j : Nat} {q : String × Nat × String} (h : P_st[j]? = some q) : ∀ w ∈ e_sw q.1 q.2.1 (e_TX.getD j []), w ∈ flatC (Jvm.Cond.and given_1 narrow_1) := by
  match j, h with
  | 0, h => cases h; exact fun w hw => List.mem_of_mem_drop (List.mem_of_mem_take (by rw [e_w_0]; exact hw))
  | 1, h => cases h; exact fun w hw => List.mem_of_mem_drop (List.mem_of_mem_take (by rw [e_w_1]; exact hw))
  | 2, h => cases h; exact fun w hw => List.mem_of_mem_drop (List.mem_of_mem_take (by rw [e_w_2]; exact hw))
  | 3, h => cases h; exact fun w hw => List.mem_of_mem_drop (List.mem_of_mem_take (by rw [e_w_3]; exact hw))
  | 4, h => cases h; exact fun w hw => List.mem_of_mem_drop (List.mem_of_mem_take (by rw [e_w_4]; exact hw))
  | 5, h => cases h; exact fun w hw => List.mem_of_mem_drop (List.mem_of_mem_take (by rw [e_w_5]; exact hw))
  | 6, h => cases h; exact fun w hw => List.mem_of_mem_drop (List.mem_of_mem_take (by rw [e_w_6]; exact hw))
  | 7, h => cases h; exact fun w hw => List.mem_of_mem_drop (List.mem_of_mem_take (by rw [e_w_7]; exact hw))
  | 8, h => cases h; exact fun w hw => List.mem_of_mem_drop (List.mem_of_mem_take (by rw [e_w_8]; exact hw))
  | 9, h => cases h; exact fun w hw => List.mem_of_mem_drop (List.mem_of_mem_take (by rw [e_w_9]; exact hw))
  | 10, h => cases h; exact fun w hw => List.mem_of_mem_drop (List.mem_of_mem_take (by rw [e_w_10]; exact hw))
  | 11, h => cases h; exact fun w hw => List.mem_of_mem_drop (List.mem_of_mem_take (by rw [e_w_11]; exact hw))
  | 12, h => cases h; exact fun w hw => List.mem_of_mem_drop (List.mem_of_mem_take (by rw [e_w_12]; exact hw))
  | 13, h => cases h; exact fun w hw => List.mem_of_mem_drop (List.mem_of_mem_take (by rw [e_w_13]; exact hw))
  | 14, h => cases h; exact fun w hw => List.mem_of_mem_drop (List.mem_of_mem_take (by rw [e_w_14]; exact hw))
  | 15, h => cases h; exact fun w hw => List.mem_of_mem_drop (List.mem_of_mem_take (by rw [e_w_15]; exact hw))
  | 16, h => cases h; exact fun w hw => List.mem_of_mem_drop (List.mem_of_mem_take (by rw [e_w_16]; exact hw))
  | 17, h => cases h; exact fun w hw => List.mem_of_mem_drop (List.mem_of_mem_take (by rw [e_w_17]; exact hw))
  | 18, h => cases h; exact fun w hw => List.mem_of_mem_drop (List.mem_of_mem_take (by rw [e_w_18]; exact hw))
  | 19, h => cases h; exact fun w hw => List.mem_of_mem_drop (List.mem_of_mem_take (by rw [e_w_19]; exact hw))
  | 20, h => cases h; exact fun w hw => List.mem_of_mem_drop (List.mem_of_mem_take (by rw [e_w_20]; exact hw))
  | 21, h => cases h; exact fun w hw => List.mem_of_mem_drop (List.mem_of_mem_take (by rw [e_w_21]; exact hw))
  | 22, h => cases h; exact fun w hw => List.mem_of_mem_drop (List.mem_of_mem_take (by rw [e_w_22]; exact hw))
  | 23, h => cases h; exact fun w hw => List.mem_of_mem_drop (List.mem_of_mem_take (by rw [e_w_23]; exact hw))
  | 24, h => cases h; exact fun w hw => List.mem_of_mem_drop (List.mem_of_mem_take (by rw [e_w_24]; exact hw))
  | 25, h => cases h; exact fun w hw => List.mem_of_mem_drop (List.mem_of_mem_take (by rw [e_w_25]; exact hw))
  | 26, h => cases h; exact fun w hw => List.mem_of_mem_drop (List.mem_of_mem_take (by rw [e_w_26]; exact hw))
  | 27, h => cases h; exact fun w hw => List.mem_of_mem_drop (List.mem_of_mem_take (by rw [e_w_27]; exact hw))
  | 28, h => cases h; exact fun w hw => List.mem_of_mem_drop (List.mem_of_mem_take (by rw [e_w_28]; exact hw))
  | 29, h => cases h; exact fun w hw => List.mem_of_mem_drop (List.mem_of_mem_take (by rw [e_w_29]; exact hw))
  | 30, h => cases h; exact fun w hw => List.mem_of_mem_drop (List.mem_of_mem_take (by rw [e_w_30]; exact hw))
  | 31, h => cases h; exact fun w hw => List.mem_of_mem_drop (List.mem_of_mem_take (by rw [e_w_31]; exact hw))
  | 32, h => cases h; exact fun w hw => List.mem_of_mem_drop (List.mem_of_mem_take (by rw [e_w_32]; exact hw))
  | 33, h => cases h; exact fun w hw => List.mem_of_mem_drop (List.mem_of_mem_take (by rw [e_w_33]; exact hw))
  | 34, h => cases h; exact fun w hw => List.mem_of_mem_drop (List.mem_of_mem_take (by rw [e_w_34]; exact hw))
  | 35, h => cases h; exact fun w hw => List.mem_of_mem_drop (List.mem_of_mem_take (by rw [e_w_35]; exact hw))
  | 36, h => cases h; exact fun w hw => List.mem_of_mem_drop (List.mem_of_mem_take (by rw [e_w_36]; exact hw))
  | 37, h => cases h; exact fun w hw => List.mem_of_mem_drop (List.mem_of_mem_take (by rw [e_w_37]; exact hw))
  | 38, h => cases h; exact fun w hw => List.mem_of_mem_drop (List.mem_of_mem_take (by rw [e_w_38]; exact hw))
  | 39, h => cases h; exact fun w hw => List.mem_of_mem_drop (List.mem_of_mem_take (by rw [e_w_39]; exact hw))
  | 40, h => cases h; exact fun w hw => List.mem_of_mem_drop (List.mem_of_mem_take (by rw [e_w_40]; exact hw))
  | 41, h => cases h; exact fun w hw => List.mem_of_mem_drop (List.mem_of_mem_take (by rw [e_w_41]; exact hw))
  | 42, h => cases h; exact fun w hw => List.mem_of_mem_drop (List.mem_of_mem_take (by rw [e_w_42]; exact hw))
  | 43, h => cases h; exact fun w hw => List.mem_of_mem_drop (List.mem_of_mem_take (by rw [e_w_43]; exact hw))
  | 44, h => cases h; exact fun w hw => List.mem_of_mem_drop (List.mem_of_mem_take (by rw [e_w_44]; exact hw))
  | 45, h => cases h; exact fun w hw => List.mem_of_mem_drop (List.mem_of_mem_take (by rw [e_w_45]; exact hw))
  | n + 46, h => simp [P_st] at h
theorem e_tx {j : Nat} (h : 0 < (P_txt j).length) : e_TX.getD j [] = P_txt j := by
  have hj : j < 46 := by
    refine Nat.lt_of_not_le fun h9 => ?_
    unfold P_txt at h
    rw [List.getD_eq_getElem?_getD, List.getElem?_eq_none (show P_TX.length ≤ j from h9)] at h
    exact absurd h (by decide)
  have hh : ∀ j ∈ List.range 46, 0 < (P_txt j).length → e_TX.getD j [] = P_txt j := by decide +kernel
  exact hh j (List.mem_range.mpr hj) h
theorem e_len {j : Nat} : (e_TX.getD j []).length < 2 ^ 31 := by
  by_cases hj : j < 46
  · have hh : ∀ j ∈ List.range 46, (e_TX.getD j []).length < 2 ^ 31 := by decide +kernel
    exact hh j (List.mem_range.mpr hj)
  · rw [List.getD_eq_getElem?_getD, List.getElem?_eq_none (show e_TX.length ≤ j from Nat.le_of_not_lt hj)]
    decide
theorem e_sref : ∀ q ∈ P_st, Cond.stringRef q.1 q.2.1 q.2.2 ∈ lw_tbl := by decide +kernel
def e_σ (B0 b : Nat) (ad : Nat → Nat) (a : Nat) : Nat := if a < 60000 then B0 + a else if a = mS then b else ad (a - mK)
def h_0 (L : Nat) (xs : Nat → Int32) : MHp := (0, 0, 0, fun a => if a = mS then .inl (0, L, .inl xs) else .inl (0, 0, .inl (fun _ => 0)))
theorem e_K {s : State} {args : Array Value} (hts : ∀ w ∈ lw_tbl, w.before args s = true) : ∃ (dC : Nat → ClassId) (dI : Nat → Nat → Nat) (dA : Nat → ClassId), va_K (dC, dI) vwCl (s_t dA) s := by
  have h1 : ∀ c : Nat, ∃ x : ClassId × (Nat → Nat), ∀ q, vwCl[c]? = some q → u_Kn s q.1 q.2.1 q.2.2 x.1 x.2 := by
    intro c
    rcases hc : vwCl[c]? with _ | ⟨C, T, N⟩
    · exact ⟨((0 : Nat), fun _ => 0), fun q hq => by cases hq⟩
    · obtain ⟨k1, -, -, ⟨k2, -⟩, -⟩ := k_cls hc
      obtain ⟨cC, iS, hk⟩ := u_known hts k1 (hts _ k2)
      exact ⟨(cC, iS), fun q hq => by cases hq; exact hk⟩
  obtain ⟨D, hD⟩ := Classical.axiomOfChoice h1
  obtain ⟨a0, b0, c0⟩ := e_arr (s := s) (args := args) (ty := .int) (by intro C h; cases h) (hts _ (List.mem_filter.mp k_arrs.1).1)
  obtain ⟨a1, b1, c1⟩ := e_arr (s := s) (args := args) (ty := .long) (by intro C h; cases h) (hts _ (List.mem_filter.mp k_arrs.2.1).1)
  obtain ⟨a2, b2, c2⟩ := e_arr (s := s) (args := args) (ty := .boolean) (by intro C h; cases h) (hts _ (List.mem_filter.mp k_arrs.2.2).1)
  have h3 : (Cond.arrayOver (.array .int)).before args s = true := hts _ (by decide +kernel)
  obtain ⟨e3, a3, k3, d1, d2, d3, d4⟩ := Cond.arrayOver_specA h3
  have h4 : (Cond.arrayOver (.object RX0)).before args s = true := hts _ (by decide +kernel)
  obtain ⟨e4, a4, k4, f1, f2, f3, f4, f5⟩ := Cond.arrayOver_spec h4
  refine ⟨fun c => (D c).1, fun c => (D c).2, fun t => match t with | 0 => a0 | 1 => a1 | 2 => a2 | 3 => a3 | _ => a4, fun c q hq => hD c q hq, ?_⟩
  intro k q hq
  match k, hq with
  | 0, hq => cases hq; exact ⟨b0, c0⟩
  | 1, hq => cases hq; exact ⟨b1, c1⟩
  | 2, hq => cases hq; exact ⟨b2, c2⟩
  | 3, hq => cases hq; exact ⟨fun n z => ⟨(fun k h => by cases h), k3, d2, e3, d3⟩, d4⟩
  | 4, hq => cases hq; exact ⟨fun n z => ⟨(fun k h => by cases h), k4, f3, e4, f4⟩, k4, e4, f3, f4, f1, f5⟩
  | n + 5, hq => simp [s_t] at hq
theorem e_E {p : Program} {s : State} {m : MethodId} {meth : Method} {c : Code} {b L : Nat} {xs : Nat → Int32} (C0 : lw_At p s m meth c b L xs) : ∃ (dC : Nat → ClassId) (dI : Nat → Nat → Nat) (dA : Nat → ClassId) (σ : Nat → Nat), s_E dC dI dA s.heap.size σ (L, xs) P_st P_txt s ∧ s_P s.heap.size σ ∧ σ mS = b := by
  obtain ⟨hx, hb, hr, hml, hown, hts, hX, hbl, hlocks, hgv⟩ := C0
  have hs := flat_of_before _ hgv
  have hA : ∀ a : Nat, a < s.heap.size → ¬ s_A s.heap.size a := fun a ha h9 => absurd (show s.heap.size ≤ a from h9) (by omega)
  obtain ⟨dC, dI, dA, hK⟩ := e_K hts
  have hstr : ∀ j : Nat, ∃ z : Nat × Nat, ∀ q, P_st[j]? = some q → (Term.string q.1 q.2.1).eval #[Value.ref b] s none [] s = some (.ref z.1) ∧ va_O "java/lang/String" z.1 (s_A s.heap.size) s s.heap ∧ va_OF "java/lang/String" "coder" "B" (.int 0) z.1 (s_A s.heap.size) s s.heap ∧ va_OF "java/lang/String" "value" "[B" (.ref z.2) z.1 (s_A s.heap.size) s s.heap ∧ va_T .byte z.2 (e_TX.getD j []).length (fun i => .int ((e_TX.getD j []).getD i 0)) (s_A s.heap.size) s s.heap := by
    intro j
    rcases hj : P_st[j]? with _ | q
    · exact ⟨(0, 0), fun q hq => by cases hq⟩
    · obtain ⟨a, aV, h1, h2, h3, h4, h5⟩ := e_str (args := #[Value.ref b]) (s := s) (A := s_A s.heap.size) (fun w hw => hs w (e_sws hj w hw)) e_len hA
      exact ⟨(a, aV), fun q' hq => by cases hq; exact ⟨h1, h2, h3, h4, h5⟩⟩
  obtain ⟨Z, hZ⟩ := Classical.axiomOfChoice hstr
  have hσS : e_σ s.heap.size b (fun j => (Z j).1) mS = b := by unfold e_σ mS; rfl
  refine ⟨dC, dI, dA, e_σ s.heap.size b (fun j => (Z j).1), ⟨hK, by rw [hσS]; exact hX, by rw [hσS]; exact hbl, Nat.le_refl _, ?_, ?_, ?_, ?_, ?_, ?_, ?_, ?_, ?_, ?_, ?_⟩, fun a ha => by unfold e_σ; rw [if_pos ha], hσS⟩
  · exact va_AO.of (hts _ (by decide +kernel))
  · exact (hts (Cond.arrayOver (.array .int)) (by decide +kernel) : _)
  · intro j q hj
    have hl : j < 46 := (List.getElem?_eq_some_iff.mp hj).1
    have e1 : e_σ s.heap.size b (fun j => (Z j).1) (mK + j) = (Z j).1 := by
      unfold e_σ mK mS
      rw [if_neg (by omega), if_neg (by omega)]
      simp
    rw [e1]
    obtain ⟨z1, z2, z3, z4, z5⟩ := hZ j q hj
    refine ⟨vk_R.of (hts _ (e_sref q (List.mem_of_getElem? hj))) z1, fun hp => ⟨(Z j).2, z2, z3, z4, ?_⟩⟩
    rw [← e_tx hp]
    exact z5
  · exact vx_Zqof (hts _ (by decide +kernel)) (hts _ (by decide +kernel)) (hs _ (by decide +kernel)) hA
  · exact vx_Zqof (hts _ (by decide +kernel)) (hts _ (by decide +kernel)) (hs _ (by decide +kernel)) hA
  · intro w hw
    obtain ⟨h1, h2⟩ := List.mem_filter.mp hw
    exact va_Nw.of (by cases w <;> first | (cases h2; done) | rfl) (hts w h1)
  · exact va_Zof (hts _ (by decide +kernel)) (hts _ (by decide +kernel)) (va_eqt (hs (Cond.eq (.static "java/lang/String" "COMPACT_STRINGS" "Z") (.int 1)) (by decide +kernel))) hA
  · exact va_Zqof (hts _ (by decide +kernel)) (hts _ (by decide +kernel)) (hs _ (by decide +kernel)) hA
  · exact va_Nc.of (hs (Cond.not (.castable "java/lang/IllegalArgumentException" "java/util/NoSuchElementException")) (by decide +kernel))
  · exact va_Nc.of (hs (Cond.not (.castable "java/lang/IllegalStateException" "java/util/NoSuchElementException")) (by decide +kernel))
  · exact va_Nc.of (hs (Cond.not (.castable "java/lang/IllegalStateException" "java/lang/IllegalArgumentException")) (by decide +kernel))
theorem e_run {p : Program} {e : Env} {s : State} {m : MethodId} {below : List Frame} {meth : Method} {c : Code} (l : Launch) (hst : l.stackTraces = false) {b L : Nat} {xs : Nat → Int32} (C0 : lw_At p s m meth c b L xs) (hex : c.exceptionTable.toList = []) {n : Nat} {h' : MHp}
    (hmx : P_mx n 225 (P_cd 225) (m_ent P_mxl 225 [.ref mS]) [] (h_0 L xs) = some (.inl (some (.int 1)), h')) (hc1 : h'.1 + h'.2.2.1 ≤ 601024) (hc2 : h'.2.1 + 6 * h'.2.2.1 ≤ 7293034) :
    W p l e room_1 s m #[Value.ref b] below meth c s.heap [] 0 0 (lw_Z below #[Value.ref b] s) (entryFrame m ([Value.ref b] : List Value).toArray 7) := by
  obtain ⟨dC, dI, dA, σ, hE, hσ, hσS⟩ := e_E C0
  obtain ⟨hx, hb, hr, hml, hown, hts, hX, hbl, hlocks, hgv⟩ := C0
  have X0 : s_ctx 225 p l room_1 s m #[Value.ref b] meth c := ⟨hx, hb, hml, hown, fun w hw => hts w (List.mem_filter.mp hw).1, hlocks, hr, (fun h => by cases h), by decide, by decide, hex, hst⟩
  have hlen : (m_spread [Value.ref mS]).length ≤ P_mxl 225 := by decide
  have hl := s_entry (σ := σ) (k := 225) hlen
  have hm : ([Value.ref mS] : List Value).map (s_v σ) = [Value.ref b] := by simp [s_v, hσS]
  rw [hm] at hl
  have hE7 : (7 : Nat) = P_mxl 225 := rfl
  rw [hE7, lg_entry_eq]
  generalize (lg_sl [Value.ref b] ++ List.replicate (P_mxl 225 - (lg_sl [Value.ref b]).length) Slot.unset).toArray = LS at hl ⊢
  obtain ⟨hcl, hhd⟩ := ck_law
  rcases hcd : P_cd 225 with _ | ⟨⟨pc, i⟩, is⟩
  · rw [hcd] at hhd; cases hhd
  · have hpc : pc = 0 := by rw [hcd] at hhd; simpa [c_hd] using hhd
    subst hpc
    have hS0 : s_S dC dI dA s.heap.size σ (L, xs) 0 0 s.heap (h_0 L xs) s.heap [] 0 0 := ⟨fun k q hk => by simp [s_w, h_0] at hk, va_S.rf, fun _ => rfl, by show (0 : Nat) ≤ 51001; decide, rfl, rfl, rfl⟩
    rw [hcd] at hmx
    refine s_body hst hσ n 225 0 i is _ [] (h_0 L xs) _ h' (by decide) hcl (by decide) (by rw [← hcd]; exact hcl) hmx p e room_1 s m _ below meth c LS s.heap [] 0 0 0 0 _ X0 hE hl hS0 ⟨by show _ ≤ 0 + 601024; omega, by show _ ≤ 0 + 7293034; omega⟩ ?_ ?_ ?_ ?_
    · intro i pc ls st v LS H' locs' cells' slots' hc hs hr' hS'
      cases hr'
      have hst9 : st = [.int 1] ∧ decode code pc = .ok (.ireturn, 1) := by
        obtain ⟨o, a1, a2, a3, v⟩ := i
        unfold c_ret at hc
        split at hc
        · rename_i z heq
          cases heq
          simp only [Bool.and_eq_true, decide_eq_true_eq] at hc
          simp only [P_step, m_step, m_d] at hs
          split at hs
          · rename_i x
            split at hs
            · simp only [Option.some.injEq, Sum.inr.injEq, Sum.inl.injEq, Prod.mk.injEq, Value.int.injEq] at hs
              obtain ⟨rfl, -⟩ := hs
              exact ⟨rfl, hc.1⟩
            · cases hs
          · cases hs
        · exfalso
          simp only [Bool.and_eq_true, decide_eq_true_eq] at hc
          exact absurd hc.2 (by decide)
        · exfalso
          simp only [Bool.and_eq_true, decide_eq_true_eq] at hc
          exact absurd hc.2 (by decide)
        · cases hc
      obtain ⟨rfl, hd⟩ := hst9
      obtain ⟨-, hS2, -, -, hc3, hc4, -⟩ := hS'
      exact va_forget (fun q hq => hS2.2.2 q hq) (W.widen (by omega) (by omega) (lw_ret hx hb hr hlocks hd))
    · intro pc E h1 LS H' locs' cells' slots' hc hh hr'
      cases hr'
    · intro pc E ce q9 LS rest H' locs' cells' slots' hh hr'
      cases hr'
    · intro pc E w ce q9 ls LS rest H' locs' cells' slots' hh
      unfold P_hnd at hh
      rw [if_pos (Or.inl (by decide))] at hh
      cases hh
/-- what is left, of the small machine alone -/
def e_Goal : Prop := ∀ (L : Nat) (xs : Nat → Int32), L ≤ 3072 → ∃ (n : Nat) (h' : MHp), P_mx n 225 (P_cd 225) (m_ent P_mxl 225 [.ref mS]) [] (h_0 L xs) = some (.inl (some (.int 1)), h') ∧ h'.1 + h'.2.2.1 ≤ 601024 ∧ h'.2.1 + 6 * h'.2.2.1 ≤ 7293034
theorem whole_start {p : Program} {e : Env} {s : State} {m : MethodId} {below : List Frame} {meth : Method} {c : Code} (G : e_Goal) (l : Launch) (hst : l.stackTraces = false) {b L : Nat} {xs : Nat → Int32} (hL : L ≤ 3072) (C0 : lw_At p s m meth c b L xs) (hex : c.exceptionTable.toList = []) : W p l e room_1 s m #[Value.ref b] below meth c s.heap [] 0 0 (lw_Z below #[Value.ref b] s) (entryFrame m ([Value.ref b] : List Value).toArray 7) := by
  obtain ⟨n, h', h1, h2, h3⟩ := G L xs hL
  exact e_run l hst C0 hex h1 h2 h3
set_option maxHeartbeats 4000000 in
theorem lw_walk (G : e_Goal) (l : Launch) (hst : l.stackTraces = false) (b : Addr) (xs : List Int32) : MetFree l x (headSpec (Jvm.Cond.code x code maxLocals ret :: tables_1) room_1) (lw_P b xs) (fun _ _ _ _ _ => True) lw_Q := by
  refine MetFree.of_bodyS (code := code) (maxLocals := maxLocals) (ret := ret) (by decide) ?_ ?_
  · intro args s m h hn
    obtain ⟨meth, c, h1, h2, h3, h4, h5, h6, -, -⟩ := Cond.code_spec hn (atoms_spec (ws := Jvm.Cond.code x code maxLocals ret :: tables_1) h _ List.mem_cons_self)
    exact ⟨meth, c, h1, h2, h3, h4, h5, h6⟩
  · intro p e s m args below meth c s₁ B hml0 hP _
    obtain ⟨rfl, hx, hbd, hgv⟩ := hP
    obtain ⟨scr, harrAt, hlist, hof, hsmall⟩ := hx
    obtain ⟨hcb, hkn, -, -⟩ := State.arrayAt?_spec harrAt
    have hown : s.vm.findClass R_law = some m.cls := findClass_of_methodNamed B.named
    have hts0 : ∀ c ∈ (Jvm.Cond.code x code maxLocals ret :: tables_1), c.before #[Value.ref b] s = true := atoms_spec (ws := Jvm.Cond.code x code maxLocals ret :: tables_1) B.pre
    have hts : ∀ w ∈ lw_tbl, w.before #[Value.ref b] s = true := k2_hts_sels lw_privs (fun w hw => hts0 w (List.mem_cons_of_mem _ hw)) lw_privs_ok
    have hml : c.maxLocals = 7 := B.maxLocals_eq (hts0 _ List.mem_cons_self)
    have hex : c.exceptionTable.toList = [] := by
      obtain ⟨meth9, c9, g1, g2, -, -, -, -, g7, -⟩ := Cond.code_spec B.named (hts0 _ List.mem_cons_self)
      have e1 : meth9 = meth := Option.some.inj (g1.symm.trans B.method)
      subst e1
      have e2 : c9 = c := Option.some.inj (g2.symm.trans (Stand.of_body B).code)
      subst e2
      simpa using g7
    have X₀ : Stand p l e room_1 s m #[Value.ref b] below meth c s₁ [] 0 0 := Stand.of_body B
    have hh0 : s₁.heap = s.heap := by rw [B.state]; rfl
    have hsz : scr.slots.size = xs.length := by rw [← Array.length_toList, hlist, List.length_map]
    have hval : ∀ j : Nat, j < xs.length → scr.slots[j]? = some (.int (xs.getD j 0)) := fun j hj => by
      rw [← Array.getElem?_toList, hlist]
      simp [hj]
    have hbl : b < s.heap.size := (Array.getElem?_eq_some_iff.mp hcb).1
    have hX : va_X b xs.length (fun j => xs.getD j 0) s s.heap := ⟨scr, hcb, hof, hkn, hsz, hval⟩
    have K : W p l e room_1 s m #[Value.ref b] below meth c s₁.heap [] 0 0 (lw_Z below #[Value.ref b] s) (entryFrame m ([Value.ref b] : List Value).toArray 7) := by
      rw [hh0]
      exact whole_start G l hst hbd ⟨B.exec, B.bytes, B.returns, hml, hown, hts, hX, hbl, B.notSynchronized, hgv⟩ hex
    obtain ⟨t, a1, o, b1, b2, b3⟩ := K s₁ rfl X₀
    exact ⟨t, o, a1, b1, b2, b3⟩
theorem lw_pre_spec {args : Array Value} {s : State} (h : (Jvm.Cond.and given_1 narrow_1).before args s = true) (hr : rest_1_c.before args s = true) : ∃ (b : Addr) (xs : List Int32), lw_P b xs args s := by
  have hs := flat_of_before _ h
  have hq := flat_of_before _ hr
  have hc : (Cond.count 1).before args s = true := hs _ (by decide +kernel)
  have harr : (Cond.arrayOf (.arg 0) .int).before args s = true := hs _ (by decide +kernel)
  have hle : (Cond.le (.length (.arg 0)) (.int 3072)).before args s = true := hs _ (by decide +kernel)
  have hlen : (Cond.isInt (.length (.arg 0))).before args s = true := hq _ (by decide +kernel)
  have hall : (Cond.all (.arg 0) (.isInt (.elem (.arg 0) (.index 0)))).before args s = true := hq _ (by decide +kernel)
  obtain ⟨b, xs, hb, hx⟩ := State.ints_of_pre rfl harr hlen hall
  have hsm : xs.length < 2 ^ 31 := hx.choose_spec.2.2.2
  have hev : (Term.length (.arg 0)).eval args s none [] s = some (.int xs.length.toInt32) := hx.length_eval hb
  have hv := Cond.le_ints hev (show (Term.int 3072).eval args s none [] s = some (.int 3072) from rfl)
  have hd : xs.length.toInt32 ≤ 3072 := by
    simpa [Cond.before, Cond.holds, hv] using hle
  have hN : xs.length ≤ 3072 := (Int32.ofNat_le_ofNat hsm (by decide)).mp (show Int32.ofNat xs.length ≤ Int32.ofNat 3072 from hd)
  exact ⟨b, xs, Cond.one_arg hc (show args[0]? = some (.ref b) from hb), hx, hN, h⟩
theorem lw_comes (G : e_Goal) (l : Launch) (hst : l.stackTraces = false) : Comes l x (Jvm.Cond.code x code maxLocals ret :: tables_1) room_1 (fun tb e args s => Calls_1 tb e args s ∧ rest_1 tb e args s ∧ Pre_1 tb e args s)
    (fun _ _ args s o t => lw_Q args s o t) := by
  intro p e ha hc hk s m args below hf hfit hheap happ hpre
  obtain ⟨b, xs, hP⟩ := lw_pre_spec hpre.2.2 hpre.2.1
  obtain ⟨k, o, h1, h2, h3, hQ⟩ := lw_walk G l hst b xs p e ha hc hk s m args below hf ((Spec.applies_iff_loose hf).mp happ).1 hP trivial
  exact ⟨k, o, h1, h2, h3, hQ⟩
theorem lw_frame {s t : State} {o : Outcome} {args : Array Value} (h : Framed s o t [] 601024 7293034) :
    Framed s o t (fieldLocs frame_1_writes args s ++ arrayLocs frame_1_arrays args s ++ staticLocs frame_1_statics s) 601024 7293034 := h
theorem lw_limb (G : e_Goal) (L : Cond) (hL : ∀ (args : Array Value) (s t : State), L.after args s (.returned (some (.int 1))) t = true) :
    ArmFor flags0 classFile x code maxLocals ret World_1 tables_1 room_1 Calls_1 rest_1 Pre_1
      (fun tb e a s o t => postC L tb e a s o t ∧ Framed s o t (fieldLocs frame_1_writes a s ++ arrayLocs frame_1_arrays a s ++ staticLocs frame_1_statics s) 601024 7293034) := by
  intro l hfl _ _ p e ha hc hk s m args below hf hfit hheap happ hpre
  obtain ⟨k, o, h1, h2, h3, rfl, hF⟩ := lw_comes G l (by unfold Launch.stackTraces; rw [hfl]; decide) p e ha hc hk s m args below hf hfit hheap happ hpre
  exact ⟨k, _, h1, h2, h3, hL args s _, lw_frame hF⟩
