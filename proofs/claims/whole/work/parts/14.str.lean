/-! TEXTS: length() and charAt() of a literal, by the bytes of the library -/
theorem dJ0_length_8abf5_0 : decode cJ0_length_8abf5 0 = .ok (.aload_n 0, 1) := by decide +kernel
theorem dJ0_length_8abf5_1 : decode cJ0_length_8abf5 1 = .ok (.getfield 9, 3) := by decide +kernel
theorem dJ0_length_8abf5_4 : decode cJ0_length_8abf5 4 = .ok (.arraylength, 1) := by decide +kernel
theorem dJ0_length_8abf5_5 : decode cJ0_length_8abf5 5 = .ok (.aload_n 0, 1) := by decide +kernel
theorem dJ0_length_8abf5_6 : decode cJ0_length_8abf5 6 = .ok (.invokevirtual 335, 3) := by decide +kernel
theorem dJ0_length_8abf5_9 : decode cJ0_length_8abf5 9 = .ok (.ishr, 1) := by decide +kernel
theorem dJ0_length_8abf5_10 : decode cJ0_length_8abf5 10 = .ok (.ireturn, 1) := by decide +kernel
theorem dJ0_coder_7d493_0 : decode cJ0_coder_7d493 0 = .ok (.getstatic 38, 3) := by decide +kernel
theorem dJ0_coder_7d493_3 : decode cJ0_coder_7d493 3 = .ok (.ifCond .eq 10, 3) := by decide +kernel
theorem dJ0_coder_7d493_6 : decode cJ0_coder_7d493 6 = .ok (.aload_n 0, 1) := by decide +kernel
theorem dJ0_coder_7d493_7 : decode cJ0_coder_7d493 7 = .ok (.getfield 15, 3) := by decide +kernel
theorem dJ0_coder_7d493_10 : decode cJ0_coder_7d493 10 = .ok (.goto 4, 3) := by decide +kernel
theorem dJ0_coder_7d493_13 : decode cJ0_coder_7d493 13 = .ok (.iconst 1, 1) := by decide +kernel
theorem dJ0_coder_7d493_14 : decode cJ0_coder_7d493 14 = .ok (.ireturn, 1) := by decide +kernel
theorem dJ0_charAt_5068e_0 : decode cJ0_charAt_5068e 0 = .ok (.aload_n 0, 1) := by decide +kernel
theorem dJ0_charAt_5068e_1 : decode cJ0_charAt_5068e 1 = .ok (.invokevirtual 492, 3) := by decide +kernel
theorem dJ0_charAt_5068e_4 : decode cJ0_charAt_5068e 4 = .ok (.ifCond .eq 12, 3) := by decide +kernel
theorem dJ0_charAt_5068e_7 : decode cJ0_charAt_5068e 7 = .ok (.aload_n 0, 1) := by decide +kernel
theorem dJ0_charAt_5068e_8 : decode cJ0_charAt_5068e 8 = .ok (.getfield 9, 3) := by decide +kernel
theorem dJ0_charAt_5068e_11 : decode cJ0_charAt_5068e 11 = .ok (.iload_n 1, 1) := by decide +kernel
theorem dJ0_charAt_5068e_12 : decode cJ0_charAt_5068e 12 = .ok (.invokestatic 495, 3) := by decide +kernel
theorem dJ0_charAt_5068e_15 : decode cJ0_charAt_5068e 15 = .ok (.ireturn, 1) := by decide +kernel
theorem dJ0_charAt_5068e_16 : decode cJ0_charAt_5068e 16 = .ok (.aload_n 0, 1) := by decide +kernel
theorem dJ0_charAt_5068e_17 : decode cJ0_charAt_5068e 17 = .ok (.getfield 9, 3) := by decide +kernel
theorem dJ0_charAt_5068e_20 : decode cJ0_charAt_5068e 20 = .ok (.iload_n 1, 1) := by decide +kernel
theorem dJ0_charAt_5068e_21 : decode cJ0_charAt_5068e 21 = .ok (.invokestatic 498, 3) := by decide +kernel
theorem dJ0_charAt_5068e_24 : decode cJ0_charAt_5068e 24 = .ok (.ireturn, 1) := by decide +kernel
theorem dJ0_isLatin1_aae02_0 : decode cJ0_isLatin1_aae02 0 = .ok (.getstatic 38, 3) := by decide +kernel
theorem dJ0_isLatin1_aae02_3 : decode cJ0_isLatin1_aae02 3 = .ok (.ifCond .eq 14, 3) := by decide +kernel
theorem dJ0_isLatin1_aae02_6 : decode cJ0_isLatin1_aae02 6 = .ok (.aload_n 0, 1) := by decide +kernel
theorem dJ0_isLatin1_aae02_7 : decode cJ0_isLatin1_aae02 7 = .ok (.getfield 15, 3) := by decide +kernel
theorem dJ0_isLatin1_aae02_10 : decode cJ0_isLatin1_aae02 10 = .ok (.ifCond .ne 7, 3) := by decide +kernel
theorem dJ0_isLatin1_aae02_13 : decode cJ0_isLatin1_aae02 13 = .ok (.iconst 1, 1) := by decide +kernel
theorem dJ0_isLatin1_aae02_14 : decode cJ0_isLatin1_aae02 14 = .ok (.goto 4, 3) := by decide +kernel
theorem dJ0_isLatin1_aae02_17 : decode cJ0_isLatin1_aae02 17 = .ok (.iconst 0, 1) := by decide +kernel
theorem dJ0_isLatin1_aae02_18 : decode cJ0_isLatin1_aae02 18 = .ok (.ireturn, 1) := by decide +kernel
theorem dJ0_checkIndex_df160_0 : decode cJ0_checkIndex_df160 0 = .ok (.iload_n 0, 1) := by decide +kernel
theorem dJ0_checkIndex_df160_1 : decode cJ0_checkIndex_df160 1 = .ok (.iload_n 1, 1) := by decide +kernel
theorem dJ0_checkIndex_df160_2 : decode cJ0_checkIndex_df160 2 = .ok (.getstatic 1053, 3) := by decide +kernel
theorem dJ0_checkIndex_df160_5 : decode cJ0_checkIndex_df160 5 = .ok (.invokestatic 1059, 3) := by decide +kernel
theorem dJ0_checkIndex_df160_8 : decode cJ0_checkIndex_df160 8 = .ok (.pop, 1) := by decide +kernel
theorem dJ0_checkIndex_df160_9 : decode cJ0_checkIndex_df160 9 = .ok (.return_, 1) := by decide +kernel
theorem dJ1_charAt_3b067_0 : decode cJ1_charAt_3b067 0 = .ok (.iload_n 1, 1) := by decide +kernel
theorem dJ1_charAt_3b067_1 : decode cJ1_charAt_3b067 1 = .ok (.aload_n 0, 1) := by decide +kernel
theorem dJ1_charAt_3b067_2 : decode cJ1_charAt_3b067 2 = .ok (.arraylength, 1) := by decide +kernel
theorem dJ1_charAt_3b067_3 : decode cJ1_charAt_3b067 3 = .ok (.invokestatic 9, 3) := by decide +kernel
theorem dJ1_charAt_3b067_6 : decode cJ1_charAt_3b067 6 = .ok (.aload_n 0, 1) := by decide +kernel
theorem dJ1_charAt_3b067_7 : decode cJ1_charAt_3b067 7 = .ok (.iload_n 1, 1) := by decide +kernel
theorem dJ1_charAt_3b067_8 : decode cJ1_charAt_3b067 8 = .ok (.baload, 1) := by decide +kernel
theorem dJ1_charAt_3b067_9 : decode cJ1_charAt_3b067 9 = .ok (.sipush 255, 3) := by decide +kernel
theorem dJ1_charAt_3b067_12 : decode cJ1_charAt_3b067 12 = .ok (.iand, 1) := by decide +kernel
theorem dJ1_charAt_3b067_13 : decode cJ1_charAt_3b067 13 = .ok (.i2c, 1) := by decide +kernel
theorem dJ1_charAt_3b067_14 : decode cJ1_charAt_3b067 14 = .ok (.ireturn, 1) := by decide +kernel
theorem dJ3_checkIndex_8e157_0 : decode cJ3_checkIndex_8e157 0 = .ok (.iload_n 0, 1) := by decide +kernel
theorem dJ3_checkIndex_8e157_1 : decode cJ3_checkIndex_8e157 1 = .ok (.ifCond .lt 8, 3) := by decide +kernel
theorem dJ3_checkIndex_8e157_4 : decode cJ3_checkIndex_8e157 4 = .ok (.iload_n 0, 1) := by decide +kernel
theorem dJ3_checkIndex_8e157_5 : decode cJ3_checkIndex_8e157 5 = .ok (.iload_n 1, 1) := by decide +kernel
theorem dJ3_checkIndex_8e157_6 : decode cJ3_checkIndex_8e157 6 = .ok (.if_icmp .lt 10, 3) := by decide +kernel
theorem dJ3_checkIndex_8e157_9 : decode cJ3_checkIndex_8e157 9 = .ok (.aload_n 2, 1) := by decide +kernel
theorem dJ3_checkIndex_8e157_10 : decode cJ3_checkIndex_8e157 10 = .ok (.iload_n 0, 1) := by decide +kernel
theorem dJ3_checkIndex_8e157_11 : decode cJ3_checkIndex_8e157 11 = .ok (.iload_n 1, 1) := by decide +kernel
theorem dJ3_checkIndex_8e157_12 : decode cJ3_checkIndex_8e157 12 = .ok (.invokestatic 95, 3) := by decide +kernel
theorem dJ3_checkIndex_8e157_15 : decode cJ3_checkIndex_8e157 15 = .ok (.athrow, 1) := by decide +kernel
theorem dJ3_checkIndex_8e157_16 : decode cJ3_checkIndex_8e157 16 = .ok (.iload_n 0, 1) := by decide +kernel
theorem dJ3_checkIndex_8e157_17 : decode cJ3_checkIndex_8e157 17 = .ok (.ireturn, 1) := by decide +kernel
theorem gs_cs : Cond.fieldLink RJ0 38 "java/lang/String" "COMPACT_STRINGS" "Z" ∈ GT := List.mem_filter.mpr ⟨in_t3 (List.mem_of_getElem? (i := 182) rfl), rfl⟩
theorem gs_co : Cond.fieldLink RJ0 15 "java/lang/String" "coder" "B" ∈ GT := List.mem_filter.mpr ⟨in_t8 (List.mem_of_getElem? (i := 46) rfl), rfl⟩
theorem gs_va : Cond.fieldLink RJ0 9 "java/lang/String" "value" "[B" ∈ GT := List.mem_filter.mpr ⟨in_t8 (List.mem_of_getElem? (i := 45) rfl), rfl⟩
theorem gs_fo : Cond.fieldLink RJ0 1053 "jdk/internal/util/Preconditions" "SIOOBE_FORMATTER" "Ljava/util/function/BiFunction;" ∈ GT := List.mem_filter.mpr ⟨in_t3 (List.mem_of_getElem? (i := 198) rfl), rfl⟩
theorem gl_co : Cond.methodLink RJ0 335 yJ0_coder_7d493 ∈ GT := List.mem_filter.mpr ⟨in_t3 (List.mem_of_getElem? (i := 178) rfl), rfl⟩
theorem gl_il : Cond.methodLink RJ0 492 yJ0_isLatin1_aae02 ∈ GT := List.mem_filter.mpr ⟨in_t3 (List.mem_of_getElem? (i := 188) rfl), rfl⟩
theorem gl_lc : Cond.methodLink RJ0 495 yJ1_charAt_3b067 ∈ GT := List.mem_filter.mpr ⟨in_t3 (List.mem_of_getElem? (i := 192) rfl), rfl⟩
theorem gl_ci : Cond.methodLink RJ1 9 yJ0_checkIndex_df160 ∈ GT := List.mem_filter.mpr ⟨in_t3 (List.mem_of_getElem? (i := 195) rfl), rfl⟩
theorem gl_pc : Cond.methodLink RJ0 1059 yJ3_checkIndex_8e157 ∈ GT := List.mem_filter.mpr ⟨in_t3 (List.mem_of_getElem? (i := 200) rfl), rfl⟩
theorem gc_len : Cond.code yJ0_length_8abf5 cJ0_length_8abf5 1 (some .int) ∈ GT := List.mem_filter.mpr ⟨in_t3 (List.mem_of_getElem? (i := 177) rfl), rfl⟩
theorem gt_len : Cond.instanceMethod yJ0_length_8abf5 ∈ GT := List.mem_filter.mpr ⟨in_t3 (List.mem_of_getElem? (i := 175) rfl), rfl⟩
theorem gz_len : Cond.selects RJ0 yJ0_length_8abf5 yJ0_length_8abf5 ∈ GT := List.mem_filter.mpr ⟨in_t3 (List.mem_of_getElem? (i := 176) rfl), rfl⟩
theorem gc_co : Cond.code yJ0_coder_7d493 cJ0_coder_7d493 1 (some .byte) ∈ GT := List.mem_filter.mpr ⟨in_t3 (List.mem_of_getElem? (i := 181) rfl), rfl⟩
theorem gt_co : Cond.instanceMethod yJ0_coder_7d493 ∈ GT := List.mem_filter.mpr ⟨in_t3 (List.mem_of_getElem? (i := 179) rfl), rfl⟩
theorem gz_co : Cond.selects RJ0 yJ0_coder_7d493 yJ0_coder_7d493 ∈ GT := List.mem_filter.mpr ⟨in_t3 (List.mem_of_getElem? (i := 180) rfl), rfl⟩
theorem gc_ch : Cond.code yJ0_charAt_5068e cJ0_charAt_5068e 2 (some .char) ∈ GT := List.mem_filter.mpr ⟨in_t3 (List.mem_of_getElem? (i := 187) rfl), rfl⟩
theorem gt_ch : Cond.instanceMethod yJ0_charAt_5068e ∈ GT := List.mem_filter.mpr ⟨in_t3 (List.mem_of_getElem? (i := 185) rfl), rfl⟩
theorem gz_ch : Cond.selects RJ0 yJ0_charAt_5068e yJ0_charAt_5068e ∈ GT := List.mem_filter.mpr ⟨in_t3 (List.mem_of_getElem? (i := 186) rfl), rfl⟩
theorem gc_il : Cond.code yJ0_isLatin1_aae02 cJ0_isLatin1_aae02 1 (some .boolean) ∈ GT := List.mem_filter.mpr ⟨in_t3 (List.mem_of_getElem? (i := 191) rfl), rfl⟩
theorem gt_il : Cond.instanceMethod yJ0_isLatin1_aae02 ∈ GT := List.mem_filter.mpr ⟨in_t3 (List.mem_of_getElem? (i := 189) rfl), rfl⟩
theorem gz_il : Cond.selects RJ0 yJ0_isLatin1_aae02 yJ0_isLatin1_aae02 ∈ GT := List.mem_filter.mpr ⟨in_t3 (List.mem_of_getElem? (i := 190) rfl), rfl⟩
theorem gc_ci : Cond.code yJ0_checkIndex_df160 cJ0_checkIndex_df160 2 none ∈ GT := List.mem_filter.mpr ⟨in_t3 (List.mem_of_getElem? (i := 197) rfl), rfl⟩
theorem gt_ci : Cond.static yJ0_checkIndex_df160 ∈ GT := List.mem_filter.mpr ⟨in_t3 (List.mem_of_getElem? (i := 196) rfl), rfl⟩
theorem gc_lc : Cond.code yJ1_charAt_3b067 cJ1_charAt_3b067 2 (some .char) ∈ GT := List.mem_filter.mpr ⟨in_t3 (List.mem_of_getElem? (i := 194) rfl), rfl⟩
theorem gt_lc : Cond.static yJ1_charAt_3b067 ∈ GT := List.mem_filter.mpr ⟨in_t3 (List.mem_of_getElem? (i := 193) rfl), rfl⟩
theorem gc_pc : Cond.code yJ3_checkIndex_8e157 cJ3_checkIndex_8e157 3 (some .int) ∈ GT := List.mem_filter.mpr ⟨in_t3 (List.mem_of_getElem? (i := 202) rfl), rfl⟩
theorem gt_pc : Cond.static yJ3_checkIndex_8e157 ∈ GT := List.mem_filter.mpr ⟨in_t3 (List.mem_of_getElem? (i := 201) rfl), rfl⟩
theorem gi_0 : Cond.initialized RJ0 ∈ GT := List.mem_filter.mpr ⟨in_t1 (List.mem_of_getElem? (i := 19) rfl), rfl⟩
theorem gi_1 : Cond.initialized RJ1 ∈ GT := List.mem_filter.mpr ⟨in_t1 (List.mem_of_getElem? (i := 20) rfl), rfl⟩
theorem gi_3 : Cond.initialized RJ3 ∈ GT := List.mem_filter.mpr ⟨in_t1 (List.mem_of_getElem? (i := 21) rfl), rfl⟩
section Str
variable {p : Program} {l : Launch} {e : Env} {R : Room} {s : State} {m : MethodId} {args : Array Value} {below : List Frame} {meth : Method} {c : Code} {H : Heap} {locs : List Loc} {cells slots : Nat} {Q : State → Prop}
/-- a call that leaves the heap, and whose answer is known -/
theorem n_call0 {pc : Nat} {ls : Array Slot} {st0 rest : List Value} {v : Option Value} (hr : va_Run p l e R s m args below meth c H locs cells slots 0 0 (F0 m pc ls st0) rest (fun st o t => o = .returned v ∧ t.heap = st.heap) (fun _ => False))
    (kk : W p l e R s m args below meth c H locs cells slots Q (F0 m (pc + 3) ls (v.toList ++ rest))) : W p l e R s m args below meth c H locs cells slots Q (F0 m pc ls st0) := by
  intro T hT X
  obtain ⟨v', st₀, t, T', L, h0, X', hL, e1, e2, ⟨hv, hh⟩, st⟩ := hr T hT X
  cases hv
  have hL0 : L = [] := by
    cases L with
    | nil => rfl
    | cons a b => exact absurd (hL a List.mem_cons_self) (fun h => h)
  subst hL0
  rw [List.append_nil] at X'
  obtain ⟨t2, a1, b1⟩ := kk T' (by rw [e1, hh, h0]) X'
  exact ⟨t2, st t2 a1, b1⟩
theorem gt_good {y : MethodName} {bytes : ByteArray} {maxL : Nat} {ret : Option FieldType} (hy : Cond.code y bytes maxL ret ∈ GT) {big : List Cond} (hbig : ∀ w ∈ GT, w ∈ big) : GoodIn big (.code y bytes maxL ret :: GT) := by
  intro w hw
  rcases List.mem_cons.mp hw with rfl | h
  · exact ⟨hbig _ hy, good_of_word (List.mem_filter.mp hy).2⟩
  · exact ⟨hbig _ h, good_of_word (List.mem_filter.mp h).2⟩
abbrev rmS (f n : Nat) : Room := { frames := f, cells := 0, slots := 0, locals := n }
abbrev QcS (v : Option Value) : Array Value → State → Outcome → State → Prop := fun _ st o t => o = .returned v ∧ t.heap = st.heap
variable {B0 : Nat}
abbrev PsC (B0 : Nat) (a : Nat) (U : State) : Prop := va_OF "java/lang/String" "coder" "B" (.int 0) a (s_A B0) U U.heap ∧ va_Z "java/lang/String" "COMPACT_STRINGS" "Z" (.int 1) (s_A B0) U U.heap
theorem cs_coder (l : Launch) (a : Nat) : Met l yJ0_coder_7d493 (.code yJ0_coder_7d493 cJ0_coder_7d493 1 (some .byte) :: GT) (rmS 1 20) (va_Pc [.ref a] (PsC B0 a)) (QcS (some (.int 0))) 0 0 (fun _ => False) := by
  refine Met.ofW (cc := cJ0_coder_7d493) (maxL := 1) (ret := some .byte) (by decide) rfl ?_
  intro p e s m args below meth c s₁ B hml hv
  obtain ⟨rfl, h1, h2⟩ := hv
  have hx := B.exec
  have hb := B.bytes
  have hr := B.returns
  have hts := fun w hw => atoms_spec (ws := .code yJ0_coder_7d493 cJ0_coder_7d493 1 (some .byte) :: GT) B.pre w (List.mem_cons_of_mem _ hw)
  have hown : s.vm.findClass RJ0 = some m.cls := findClass_of_methodNamed B.named
  have hlocks := B.notSynchronized
  have hl := lv_entry ([.ref a]) (n := 1) (Nat.le_of_ble_eq_true rfl)
  rw [lg_entry_eq]
  generalize (lg_sl ([.ref a]) ++ List.replicate (1 - (lg_sl ([.ref a])).length) Slot.unset).toArray = ls at hl ⊢
  refine va_gets hx hb h2 va_S.rf hown (hts _ gs_cs) (fun _ h => h) dJ0_coder_7d493_0 ?_
  refine lv_if_eq (tgt := 13) hx hb dJ0_coder_7d493_3 (by decide) (fun h => absurd h (by decide)) (fun _ => ?_)
  refine lv_aload_n hx hb dJ0_coder_7d493_6 rfl (lv_at hl 0 rfl) ?_
  refine vk_getf hx hb h1 va_S.rf hown (hts _ gs_co) (fun _ h => h) dJ0_coder_7d493_7 ?_
  refine lv_goto (tgt := 14) hx hb dJ0_coder_7d493_10 (by decide) ?_
  exact W.zret hx hb hr rfl (fun t ht hW => ⟨rfl, ht⟩) (fun q h => by cases h) dJ0_coder_7d493_14
theorem cs_latin (l : Launch) (a : Nat) : Met l yJ0_isLatin1_aae02 (.code yJ0_isLatin1_aae02 cJ0_isLatin1_aae02 1 (some .boolean) :: GT) (rmS 1 20) (va_Pc [.ref a] (PsC B0 a)) (QcS (some (.int 1))) 0 0 (fun _ => False) := by
  refine Met.ofW (cc := cJ0_isLatin1_aae02) (maxL := 1) (ret := some .boolean) (by decide) rfl ?_
  intro p e s m args below meth c s₁ B hml hv
  obtain ⟨rfl, h1, h2⟩ := hv
  have hx := B.exec
  have hb := B.bytes
  have hr := B.returns
  have hts := fun w hw => atoms_spec (ws := .code yJ0_isLatin1_aae02 cJ0_isLatin1_aae02 1 (some .boolean) :: GT) B.pre w (List.mem_cons_of_mem _ hw)
  have hown : s.vm.findClass RJ0 = some m.cls := findClass_of_methodNamed B.named
  have hlocks := B.notSynchronized
  have hl := lv_entry ([.ref a]) (n := 1) (Nat.le_of_ble_eq_true rfl)
  rw [lg_entry_eq]
  generalize (lg_sl ([.ref a]) ++ List.replicate (1 - (lg_sl ([.ref a])).length) Slot.unset).toArray = ls at hl ⊢
  refine va_gets hx hb h2 va_S.rf hown (hts _ gs_cs) (fun _ h => h) dJ0_isLatin1_aae02_0 ?_
  refine lv_if_eq (tgt := 17) hx hb dJ0_isLatin1_aae02_3 (by decide) (fun h => absurd h (by decide)) (fun _ => ?_)
  refine lv_aload_n hx hb dJ0_isLatin1_aae02_6 rfl (lv_at hl 0 rfl) ?_
  refine vk_getf hx hb h1 va_S.rf hown (hts _ gs_co) (fun _ h => h) dJ0_isLatin1_aae02_7 ?_
  refine lv_if_ne (tgt := 17) hx hb dJ0_isLatin1_aae02_10 (by decide) (fun h => absurd rfl h) (fun _ => ?_)
  refine lv_iconst (v := 1) hx hb dJ0_isLatin1_aae02_13 (by decide) ?_
  refine lv_goto (tgt := 18) hx hb dJ0_isLatin1_aae02_14 (by decide) ?_
  exact W.zret hx hb hr (by decide) (fun t ht hW => ⟨rfl, ht⟩) (fun q h => by cases h) dJ0_isLatin1_aae02_18
abbrev PsL (B0 : Nat) (a aV n : Nat) (f : Nat → Value) (U : State) : Prop := PsC B0 a U ∧ va_O "java/lang/String" a (s_A B0) U U.heap ∧ va_OF "java/lang/String" "value" "[B" (.ref aV) a (s_A B0) U U.heap ∧ va_T .byte aV n f (s_A B0) U U.heap ∧ va_Zq "jdk/internal/util/Preconditions" "SIOOBE_FORMATTER" "Ljava/util/function/BiFunction;" (s_A B0) U U.heap
theorem PsC_warm {s U : State} {a : Nat} (h : PsC B0 a s) (hU : U.heap = s.heap) (hW : s.WarmedH U.vm) : PsC B0 a U := ⟨(by rw [hU]; exact h.1.moved hW.alike), (by rw [hU]; exact h.2.moved hW.alike)⟩
theorem PsC_blind {a : Nat} : FrameBlind (va_Pc [.ref a] (PsC B0 a)) := fun v U g mk q => by
  obtain ⟨q0, q1, q2⟩ := q
  exact ⟨q0, q1.moved (u := U) (U := U.calling g mk v) (Vm.Alike.refl U.vm), q2.moved (u := U) (U := U.calling g mk v) (Vm.Alike.refl U.vm)⟩
theorem cs_length (l : Launch) (a aV n : Nat) (f : Nat → Value) (hn : n < 2 ^ 31) : Met l yJ0_length_8abf5 (.code yJ0_length_8abf5 cJ0_length_8abf5 1 (some .int) :: GT) (rmS 2 40) (va_Pc [.ref a] (PsL B0 a aV n f)) (QcS (some (.int (Int32.ofNat n)))) 0 0 (fun _ => False) := by
  refine Met.ofW (cc := cJ0_length_8abf5) (maxL := 1) (ret := some .int) (by decide) rfl ?_
  intro p e s m args below meth c s₁ B hml hv
  obtain ⟨rfl, h1, h2, h3, h4, h5⟩ := hv
  have hx := B.exec
  have hb := B.bytes
  have hr := B.returns
  have hts := fun w hw => atoms_spec (ws := .code yJ0_length_8abf5 cJ0_length_8abf5 1 (some .int) :: GT) B.pre w (List.mem_cons_of_mem _ hw)
  have hown : s.vm.findClass RJ0 = some m.cls := findClass_of_methodNamed B.named
  have hlocks := B.notSynchronized
  have hl := lv_entry ([.ref a]) (n := 1) (Nat.le_of_ble_eq_true rfl)
  rw [lg_entry_eq]
  generalize (lg_sl ([.ref a]) ++ List.replicate (1 - (lg_sl ([.ref a])).length) Slot.unset).toArray = ls at hl ⊢
  refine lv_aload_n hx hb dJ0_length_8abf5_0 rfl (lv_at hl 0 rfl) ?_
  refine vk_getf hx hb h3 va_S.rf hown (hts _ gs_va) (fun _ h => h) dJ0_length_8abf5_1 ?_
  refine va_tlen hx hb h4 va_S.rf rfl dJ0_length_8abf5_4 ?_
  refine lv_aload_n hx hb dJ0_length_8abf5_5 rfl (lv_at hl 0 rfl) ?_
  obtain ⟨cellA, ha1, ha2, ha3, -⟩ := id h2
  refine n_call0 (v := some (.int 0)) (rest := [.int (Int32.ofNat n)]) (va_runV (As := []) ⟨hx, hb, hml, hown, hts⟩ (cs_coder l a) ⟨callB_of 0 hts (gt_good gc_co (fun _ h => h)) rfl rfl rfl (hts _ gi_0) (hts _ gl_co) (by decide +kernel) ⟨by decide, by decide⟩, hts _ gt_co, hts _ gz_co⟩
    ⟨PsC_blind, ⟨cellA, ha1, ha2, ha3⟩, fun U hU hW => ⟨rfl, PsC_warm h1 hU hW⟩⟩ rfl rfl hl.1 rfl (lv_room (Nat.le_of_ble_eq_true rfl)) dJ0_length_8abf5_6 ⟨Nat.zero_le _, Nat.zero_le _⟩) ?_
  refine lv_ishr hx hb dJ0_length_8abf5_9 ?_
  have e0 : Int32.ofNat n >>> ((0 : Int32) &&& 31) = Int32.ofNat n := sb_shr0 _
  rw [e0]
  exact W.iret hx hb hr (fun t ht hW => ⟨rfl, ht⟩) (fun q h => by cases h) dJ0_length_8abf5_10
theorem cs_pre (l : Launch) (k n : Nat) (hk : k < n) (hn : n < 2 ^ 31) (v : Value) (hv : v = .null ∨ ∃ t, v = .ref t) : Met l yJ3_checkIndex_8e157 (.code yJ3_checkIndex_8e157 cJ3_checkIndex_8e157 3 (some .int) :: GT) (rmS 1 20) (va_Pc [.int (nI k), .int (nI n), v] (fun _ => True)) (QcS (some (.int (nI k)))) 0 0 (fun _ => False) := by
  refine Met.ofW (cc := cJ3_checkIndex_8e157) (maxL := 3) (ret := some .int) (by decide) rfl ?_
  intro p e s m args below meth c s₁ B hml hv9
  obtain ⟨rfl, -⟩ := hv9
  have hx := B.exec
  have hb := B.bytes
  have hr := B.returns
  have hlocks := B.notSynchronized
  have hlen : (lg_sl ([.int (nI k), .int (nI n), v])).length ≤ 3 := by rcases hv with rfl | ⟨t, rfl⟩ <;> exact Nat.le_of_ble_eq_true rfl
  have hl := lv_entry ([.int (nI k), .int (nI n), v]) (n := 3) hlen
  rw [lg_entry_eq]
  generalize (lg_sl ([.int (nI k), .int (nI n), v]) ++ List.replicate (3 - (lg_sl ([.int (nI k), .int (nI n), v])).length) Slot.unset).toArray = ls at hl ⊢
  refine lv_iload_n hx hb dJ3_checkIndex_8e157_0 rfl (lv_at hl 0 rfl) ?_
  refine lv_if_lt (tgt := 9) hx hb dJ3_checkIndex_8e157_1 (by decide) (fun h => absurd h (nI_pos (by omega))) (fun _ => ?_)
  refine lv_iload_n hx hb dJ3_checkIndex_8e157_4 rfl (lv_at hl 0 rfl) ?_
  refine lv_iload_n hx hb dJ3_checkIndex_8e157_5 rfl (lv_at hl 1 rfl) ?_
  refine lv_icmp_lt (tgt := 16) hx hb dJ3_checkIndex_8e157_6 (by decide) (fun _ => ?_) (fun h => absurd (nI_lt hk hn) h)
  refine lv_iload_n hx hb dJ3_checkIndex_8e157_16 rfl (lv_at hl 0 rfl) ?_
  exact W.iret hx hb hr (fun t ht hW => ⟨rfl, ht⟩) (fun q h => by cases h) dJ3_checkIndex_8e157_17
abbrev PsF (B0 : Nat) (U : State) : Prop := va_Zq "jdk/internal/util/Preconditions" "SIOOBE_FORMATTER" "Ljava/util/function/BiFunction;" (s_A B0) U U.heap
theorem cs_index (l : Launch) (k n : Nat) (hk : k < n) (hn : n < 2 ^ 31) : Met l yJ0_checkIndex_df160 (.code yJ0_checkIndex_df160 cJ0_checkIndex_df160 2 none :: GT) (rmS 2 45) (va_Pc [.int (nI k), .int (nI n)] (PsF B0)) (QcS none) 0 0 (fun _ => False) := by
  refine Met.ofW (cc := cJ0_checkIndex_df160) (maxL := 2) (ret := none) (by decide) rfl ?_
  intro p e s m args below meth c s₁ B hml hv
  obtain ⟨rfl, h1⟩ := hv
  have hx := B.exec
  have hb := B.bytes
  have hr := B.returns
  have hts := fun w hw => atoms_spec (ws := .code yJ0_checkIndex_df160 cJ0_checkIndex_df160 2 none :: GT) B.pre w (List.mem_cons_of_mem _ hw)
  have hown : s.vm.findClass RJ0 = some m.cls := findClass_of_methodNamed B.named
  have hlocks := B.notSynchronized
  have hl := lv_entry ([.int (nI k), .int (nI n)]) (n := 2) (Nat.le_of_ble_eq_true rfl)
  rw [lg_entry_eq]
  generalize (lg_sl ([.int (nI k), .int (nI n)]) ++ List.replicate (2 - (lg_sl ([.int (nI k), .int (nI n)])).length) Slot.unset).toArray = ls at hl ⊢
  refine lv_iload_n hx hb dJ0_checkIndex_df160_0 rfl (lv_at hl 0 rfl) ?_
  refine lv_iload_n hx hb dJ0_checkIndex_df160_1 rfl (lv_at hl 1 rfl) ?_
  have key : ∀ v : Value, (v = .null ∨ ∃ t, v = .ref t) → va_Z "jdk/internal/util/Preconditions" "SIOOBE_FORMATTER" "Ljava/util/function/BiFunction;" v (s_A B0) s s.heap → W p l e (headSpec (.code yJ0_checkIndex_df160 cJ0_checkIndex_df160 2 none :: GT) (rmS 2 45)).room s m ([.int (nI k), .int (nI n)] : List Value).toArray below meth c s.heap [] 0 0 (MQ below (QcS none) ([.int (nI k), .int (nI n)] : List Value).toArray s 0 0 (fun _ => False)) (F0 m 2 ls [.int (nI n), .int (nI k)]) := by
    intro v hv hz
    refine va_gets hx hb hz va_S.rf hown (hts _ gs_fo) (fun _ h => h) dJ0_checkIndex_df160_2 ?_
    refine n_call0 (v := some (.int (nI k))) (rest := []) (va_runS (As := [.int (nI k), .int (nI n), v]) ⟨hx, hb, hml, hown, hts⟩ (cs_pre l k n hk hn v hv) ⟨callB_of 3 hts (gt_good gc_pc (fun _ h => h)) rfl rfl rfl (hts _ gi_3) (hts _ gl_pc) (by decide +kernel) ⟨by decide, by decide⟩, hts _ gt_pc⟩
      ⟨fun _ _ _ _ q => q, fun U hU hW => ⟨rfl, trivial⟩⟩ rfl rfl hl.1 rfl (lv_room (Nat.le_of_ble_eq_true rfl)) dJ0_checkIndex_df160_5 ⟨Nat.zero_le _, Nat.zero_le _⟩) ?_
    refine lv_pop hx hb dJ0_checkIndex_df160_8 rfl ?_
    exact W.vret hx hb hr (fun t ht hW => ⟨rfl, ht⟩) (fun q h => by cases h) dJ0_checkIndex_df160_9
  rcases h1 with h1 | ⟨t, h1⟩
  · exact key _ (Or.inl rfl) h1
  · exact key _ (Or.inr ⟨t, rfl⟩) h1
abbrev PsT (B0 aV n : Nat) (f : Nat → Value) (U : State) : Prop := va_T .byte aV n f (s_A B0) U U.heap ∧ PsF B0 U
/-- a byte of a text in small signs -/
def sByte (x : Int32) : Prop := ((x &&& 255).toUInt32 % 65536).toInt32 = x ∧ narrow .char (.int x) = .int x
theorem cs_lchar (l : Launch) (aV n k : Nat) (f : Nat → Value) (x : Int32) (hk : k < n) (hn : n < 2 ^ 31) (hf : f k = .int x) (hx9 : sByte x) : Met l yJ1_charAt_3b067 (.code yJ1_charAt_3b067 cJ1_charAt_3b067 2 (some .char) :: GT) (rmS 3 70) (va_Pc [.ref aV, .int (nI k)] (PsT B0 aV n f)) (QcS (some (.int x))) 0 0 (fun _ => False) := by
  refine Met.ofW (cc := cJ1_charAt_3b067) (maxL := 2) (ret := some .char) (by decide) rfl ?_
  intro p e s m args below meth c s₁ B hml hv
  obtain ⟨rfl, h1, h2⟩ := hv
  have hx := B.exec
  have hb := B.bytes
  have hr := B.returns
  have hts := fun w hw => atoms_spec (ws := .code yJ1_charAt_3b067 cJ1_charAt_3b067 2 (some .char) :: GT) B.pre w (List.mem_cons_of_mem _ hw)
  have hown : s.vm.findClass RJ1 = some m.cls := findClass_of_methodNamed B.named
  have hlocks := B.notSynchronized
  have hl := lv_entry ([.ref aV, .int (nI k)]) (n := 2) (Nat.le_of_ble_eq_true rfl)
  rw [lg_entry_eq]
  generalize (lg_sl ([.ref aV, .int (nI k)]) ++ List.replicate (2 - (lg_sl ([.ref aV, .int (nI k)])).length) Slot.unset).toArray = ls at hl ⊢
  refine lv_iload_n hx hb dJ1_charAt_3b067_0 rfl (lv_at hl 1 rfl) ?_
  refine lv_aload_n hx hb dJ1_charAt_3b067_1 rfl (lv_at hl 0 rfl) ?_
  refine va_tlen hx hb h1 va_S.rf rfl dJ1_charAt_3b067_2 ?_
  refine n_call0 (v := none) (rest := []) (va_runS (As := [.int (nI k), .int (nI n)]) ⟨hx, hb, hml, hown, hts⟩ (cs_index l k n hk hn) ⟨callB_of 2 hts (gt_good gc_ci (fun _ h => h)) rfl rfl rfl (hts _ gi_0) (hts _ gl_ci) (by decide +kernel) ⟨by decide, by decide⟩, hts _ gt_ci⟩
    ⟨fun v U g mk q => ⟨q.1, q.2.moved (u := U) (U := U.calling g mk v) (Vm.Alike.refl U.vm)⟩, fun U hU hW => ⟨rfl, by show va_Zq _ _ _ _ _ _; rw [hU]; exact h2.moved hW.alike⟩⟩ rfl rfl hl.1 rfl (lv_room (Nat.le_of_ble_eq_true rfl)) dJ1_charAt_3b067_3 ⟨Nat.zero_le _, Nat.zero_le _⟩) ?_
  refine lv_aload_n hx hb dJ1_charAt_3b067_6 rfl (lv_at hl 0 rfl) ?_
  refine lv_iload_n hx hb dJ1_charAt_3b067_7 rfl (lv_at hl 1 rfl) ?_
  refine va_tb (v := .int x) hx hb h1 va_S.rf (vp_in_nI hk hn) (by rw [nI_clamp (by omega)]; exact hf) dJ1_charAt_3b067_8 ?_
  refine lv_sipush (v := 255) hx hb dJ1_charAt_3b067_9 (by decide) ?_
  refine lv_iand hx hb dJ1_charAt_3b067_12 ?_
  refine lv_i2c (v := x) hx hb dJ1_charAt_3b067_13 hx9.1 ?_
  exact W.zret hx hb hr hx9.2 (fun t ht hW => ⟨rfl, ht⟩) (fun q h => by cases h) dJ1_charAt_3b067_14
theorem cs_char (l : Launch) (a aV n k : Nat) (f : Nat → Value) (x : Int32) (hk : k < n) (hn : n < 2 ^ 31) (hf : f k = .int x) (hx9 : sByte x) : Met l yJ0_charAt_5068e (.code yJ0_charAt_5068e cJ0_charAt_5068e 2 (some .char) :: GT) (rmS 4 95) (va_Pc [.ref a, .int (nI k)] (PsL B0 a aV n f)) (QcS (some (.int x))) 0 0 (fun _ => False) := by
  refine Met.ofW (cc := cJ0_charAt_5068e) (maxL := 2) (ret := some .char) (by decide) rfl ?_
  intro p e s m args below meth c s₁ B hml hv
  obtain ⟨rfl, h1, h2, h3, h4, h5⟩ := hv
  have hx := B.exec
  have hb := B.bytes
  have hr := B.returns
  have hts := fun w hw => atoms_spec (ws := .code yJ0_charAt_5068e cJ0_charAt_5068e 2 (some .char) :: GT) B.pre w (List.mem_cons_of_mem _ hw)
  have hown : s.vm.findClass RJ0 = some m.cls := findClass_of_methodNamed B.named
  have hlocks := B.notSynchronized
  have hl := lv_entry ([.ref a, .int (nI k)]) (n := 2) (Nat.le_of_ble_eq_true rfl)
  rw [lg_entry_eq]
  generalize (lg_sl ([.ref a, .int (nI k)]) ++ List.replicate (2 - (lg_sl ([.ref a, .int (nI k)])).length) Slot.unset).toArray = ls at hl ⊢
  obtain ⟨cellA, ha1, ha2, ha3, -⟩ := id h2
  refine lv_aload_n hx hb dJ0_charAt_5068e_0 rfl (lv_at hl 0 rfl) ?_
  refine n_call0 (v := some (.int 1)) (rest := []) (va_runV (As := []) ⟨hx, hb, hml, hown, hts⟩ (cs_latin l a) ⟨callB_of 0 hts (gt_good gc_il (fun _ h => h)) rfl rfl rfl (hts _ gi_0) (hts _ gl_il) (by decide +kernel) ⟨by decide, by decide⟩, hts _ gt_il, hts _ gz_il⟩
    ⟨PsC_blind, ⟨cellA, ha1, ha2, ha3⟩, fun U hU hW => ⟨rfl, PsC_warm h1 hU hW⟩⟩ rfl rfl hl.1 rfl (lv_room (Nat.le_of_ble_eq_true rfl)) dJ0_charAt_5068e_1 ⟨Nat.zero_le _, Nat.zero_le _⟩) ?_
  refine lv_if_eq (tgt := 16) hx hb dJ0_charAt_5068e_4 (by decide) (fun h => absurd h (by decide)) (fun _ => ?_)
  refine lv_aload_n hx hb dJ0_charAt_5068e_7 rfl (lv_at hl 0 rfl) ?_
  refine vk_getf hx hb h3 va_S.rf hown (hts _ gs_va) (fun _ h => h) dJ0_charAt_5068e_8 ?_
  refine lv_iload_n hx hb dJ0_charAt_5068e_11 rfl (lv_at hl 1 rfl) ?_
  refine n_call0 (v := some (.int x)) (rest := []) (va_runS (As := [.ref aV, .int (nI k)]) ⟨hx, hb, hml, hown, hts⟩ (cs_lchar l aV n k f x hk hn hf hx9) ⟨callB_of 2 hts (gt_good gc_lc (fun _ h => h)) rfl rfl rfl (hts _ gi_1) (hts _ gl_lc) (by decide +kernel) ⟨by decide, by decide⟩, hts _ gt_lc⟩
    ⟨fun v U g mk q => ⟨q.1, q.2.1.moved (u := U) (U := U.calling g mk v) (Vm.Alike.refl U.vm), q.2.2.moved (u := U) (U := U.calling g mk v) (Vm.Alike.refl U.vm)⟩, fun U hU hW => ⟨rfl, by show va_T _ _ _ _ _ _ _; rw [hU]; exact h4.moved hW.alike, by show va_Zq _ _ _ _ _ _; rw [hU]; exact h5.moved hW.alike⟩⟩ rfl rfl hl.1 rfl (lv_room (Nat.le_of_ble_eq_true rfl)) dJ0_charAt_5068e_12 ⟨Nat.zero_le _, Nat.zero_le _⟩) ?_
  exact W.zret hx hb hr hx9.2 (fun t ht hW => ⟨rfl, ht⟩) (fun q h => by cases h) dJ0_charAt_5068e_15
end Str
