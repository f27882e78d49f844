/-! WHAT STAYS OF THE START: the classes, the script, the texts, what a throw needs -/
section HeapA
variable (dC : Nat → ClassId) (dI : Nat → Nat → Nat) (dA : Nat → ClassId) (B0 : Nat) (σ : Nat → Nat) (scr : Nat × (Nat → Int32)) (stT : List (String × Nat × String)) (txt : Nat → List Int32)
def s_str (U : State) : Prop := ∀ (j : Nat) (q : String × Nat × String), stT[j]? = some q → vk_R q.1 q.2.1 q.2.2 (σ (mK + j)) U ∧
  (0 < (txt j).length → ∃ aV : Nat, va_O "java/lang/String" (σ (mK + j)) (s_A B0) U U.heap ∧ va_OF "java/lang/String" "coder" "B" (.int 0) (σ (mK + j)) (s_A B0) U U.heap ∧ va_OF "java/lang/String" "value" "[B" (.ref aV) (σ (mK + j)) (s_A B0) U U.heap ∧ va_T .byte aV (txt j).length (fun i => .int ((txt j).getD i 0)) (s_A B0) U U.heap)
def s_E (U : State) : Prop := va_K (dC, dI) vwCl (s_t dA) U ∧ va_X (σ mS) scr.1 scr.2 U U.heap ∧ σ mS < B0 ∧ B0 ≤ U.heap.size ∧ va_AO RX0 U ∧ va_AOA .int U ∧ s_str B0 σ stT txt U ∧
  vx_Zq Bundle.tN "UNASSIGNED_STACK" Bundle.steD (s_A B0) U U.heap ∧ vx_Zq Bundle.tN "SUPPRESSED_SENTINEL" Bundle.listD (s_A B0) U U.heap ∧ (∀ w ∈ NW, va_Nw w U) ∧ va_Z "java/lang/String" "COMPACT_STRINGS" "Z" (.int 1) (s_A B0) U U.heap ∧ va_Zq "jdk/internal/util/Preconditions" "SIOOBE_FORMATTER" "Ljava/util/function/BiFunction;" (s_A B0) U U.heap ∧ va_Nc "java/lang/IllegalArgumentException" "java/util/NoSuchElementException" U ∧ va_Nc "java/lang/IllegalStateException" "java/util/NoSuchElementException" U ∧ va_Nc "java/lang/IllegalStateException" "java/lang/IllegalArgumentException" U
/-- the heap: it holds the cells; nothing below B0 has changed; what was made is counted -/
def s_S (c0 s0 : Nat) (H0 : Heap) (h : MHp) (H : Heap) (locs : List Loc) (cells slots : Nat) : Prop :=
  va_P (dC, dI) vwCl (s_w dA B0 σ h) H ∧ va_S (s_A B0) H0 H locs ∧ (h.2.2.1 = 0 → H0.size = B0 + c0) ∧ h.1 ≤ 51001 ∧ cells + c0 = h.1 + h.2.2.1 ∧ slots + s0 = h.2.1 + 6 * h.2.2.1 ∧ h.2.2.2 mS = .inl (0, scr.1, .inl scr.2)
end HeapA
theorem va_AOA.moved {t : FieldType} {u U : State} (hvm : u.vm.Alike U.vm) (h : va_AOA t u) : va_AOA t U := over_moved (a := #[]) (a' := #[]) hvm h
theorem NW_warm {s U : State} (hW : s.WarmedH U.vm) (h : ∀ w ∈ NW, va_Nw w s) : ∀ w ∈ NW, va_Nw w U := by
  intro w hw
  have h1 := h w hw
  have h2 := (List.mem_filter.mp hw).2
  cases w <;> first | (cases h2; done) | exact va_Nw.warmC hW h1 | exact va_Nw.warmD hW h1 | exact va_Nw.warmM hW h1
section HeapB
variable {dC : Nat → ClassId} {dI : Nat → Nat → Nat} {dA : Nat → ClassId} {B0 : Nat} {σ : Nat → Nat} {scr : Nat × (Nat → Int32)} {stT : List (String × Nat × String)} {txt : Nat → List Int32}
theorem s_E_warm {s U : State} {locs : List Loc} (hE : s_E dC dI dA B0 σ scr stT txt s) (hW : s.WarmedH U.vm) (hS : va_S (s_A B0) s.heap U.heap locs) : s_E dC dI dA B0 σ scr stT txt U := by
  obtain ⟨hK, hX, hb, hB, h1, h2, h3, h4, h5, h6, h7, h8, h9, h10, h11⟩ := hE
  have ha := hW.alike
  have hq : ∀ a : Nat, a < s.heap.size → ¬ s_A B0 a → U.heap[a]? = s.heap[a]? := hS.2.1
  refine ⟨va_K.moved ha hK, va_X.moved ha (hX.kept (hq _ (by omega) (by show ¬ B0 ≤ _; omega))), hb, Nat.le_trans hB hS.1, h1.moved ha, h2.moved ha, fun j q hj => ?_, (h4.moved ha).kept hq, (h5.moved ha).kept hq, NW_warm hW h6, (h7.moved ha).kept hq, (h8.moved ha).kept hq, h9.moved ha, h10.moved ha, h11.moved ha⟩
  obtain ⟨e1, e2⟩ := h3 j q hj
  refine ⟨e1.warm hW, fun hp => ?_⟩
  obtain ⟨aV, f1, f2, f3, f4⟩ := e2 hp
  exact ⟨aV, (f1.moved ha).kept hq, (f2.moved ha).kept hq, (f3.moved ha).kept hq, (f4.moved ha).kept hq⟩
theorem s_E_calling {U : State} (g : JFrame) (mk : MethodId) (a : Array Value) (hE : s_E dC dI dA B0 σ scr stT txt U) : s_E dC dI dA B0 σ scr stT txt (U.calling g mk a) :=
  s_E_warm (locs := []) hE (State.WarmedH.refl U) va_S.rf
end HeapB
