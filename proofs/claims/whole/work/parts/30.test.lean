/-- how many of the first n are so -/
def cnt (p : Int → Bool) : Nat → Int
  | 0 => 0
  | n + 1 => cnt p n + if p n then 1 else 0
section T30
variable {Q : MOut → MHp → Prop} {X : Nat × (Nat → Int32)} {s : Bool × Bool} {dh dl t : Nat} {M : Mem}
theorem t6 {g : Int} {n : Nat} (hg : wz g = g) (hn : pk M 78 0 = n) (h24 : n ≤ 24) : CL 6 [.ref 78, vI g] (mkh X s dh dl t M) Q ↔ Q (.inl (some (vI (cnt (fun i => pk M 80 i = g) n)))) (mkh X s dh dl t M) := by
  have key : ∀ (m i : Nat), i + m = n → (EX 6 (sx 6 4) [.ref 78, vI g, vI (cnt (fun i => pk M 80 i = g) i), vI i] [] (mkh X s dh dl t M) Q ↔ Q (.inl (some (vI (cnt (fun i => pk M 80 i = g) n)))) (mkh X s dh dl t M)) := by
    intro m
    induction m with
    | zero =>
      intro i hi
      rw [s_6_4]
      simp only [↓x_c, ↓x_is_2, ↓x_is_3, ↓x_il_3, ↓x_al_0, ↓gi_78_0, ↓x_ge, ↓gr_78_2, ↓x_il_1, ↓x_ne, ↓x_inc_2, ↓x_inc_3, ↓x_go, ↓x_il_2, ↓x_ir, ↓ld_80, ↓n_6, ↓s_6_0, ↓s_6_25, ↓s_6_31, ↓pv_i, ↓pv_r, ↓pv_0, ↓pv_l, wz_pk, wz_ti, wz_wz, vI_wz, wz_id, wz_0, List.length_cons, List.length_nil, ↓reduceIte, true_and, and_true, Int.reduceLE, Int.reduceLT, Int.reduceEq, not_true_eq_false, not_false_eq_true, false_or, or_false, true_or, or_true, ite_not, Int.reduceNeg, Int32.reduceToInt, Nat.reduceAdd, Nat.reduceLeDiff, Nat.reduceLT, Nat.reduceEqDiff, Int.reduceAdd, Int.reduceSub, Int.reduceMul, Nat.zero_le]
      done
    | succ m ih =>
      intro i hi
      rw [s_6_4]
      simp only [↓x_c, ↓x_is_2, ↓x_is_3, ↓x_il_3, ↓x_al_0, ↓gi_78_0, ↓x_ge, ↓gr_78_2, ↓x_il_1, ↓x_ne, ↓x_inc_2, ↓x_inc_3, ↓x_go, ↓x_il_2, ↓x_ir, ↓ld_80, ↓n_6, ↓s_6_0, ↓s_6_25, ↓s_6_31, ↓pv_i, ↓pv_r, ↓pv_0, ↓pv_l, wz_pk, wz_ti, wz_wz, vI_wz, wz_id, wz_0, List.length_cons, List.length_nil, ↓reduceIte, true_and, and_true, Int.reduceLE, Int.reduceLT, Int.reduceEq, not_true_eq_false, not_false_eq_true, false_or, or_false, true_or, or_true, ite_not, Int.reduceNeg, Int32.reduceToInt, Nat.reduceAdd, Nat.reduceLeDiff, Nat.reduceLT, Nat.reduceEqDiff, Int.reduceAdd, Int.reduceSub, Int.reduceMul, Nat.zero_le]
      done
  simp only [↓x_c, ↓x_is_2, ↓x_is_3, ↓x_il_3, ↓x_al_0, ↓gi_78_0, ↓x_ge, ↓gr_78_2, ↓x_il_1, ↓x_ne, ↓x_inc_2, ↓x_inc_3, ↓x_go, ↓x_il_2, ↓x_ir, ↓ld_80, ↓n_6, ↓s_6_0, ↓s_6_25, ↓s_6_31, ↓pv_i, ↓pv_r, ↓pv_0, ↓pv_l, wz_pk, wz_ti, wz_wz, vI_wz, wz_id, wz_0, List.length_cons, List.length_nil, ↓reduceIte, true_and, and_true, Int.reduceLE, Int.reduceLT, Int.reduceEq, not_true_eq_false, not_false_eq_true, false_or, or_false, true_or, or_true, ite_not, Int.reduceNeg, Int32.reduceToInt, Nat.reduceAdd, Nat.reduceLeDiff, Nat.reduceLT, Nat.reduceEqDiff, Int.reduceAdd, Int.reduceSub, Int.reduceMul, Nat.zero_le]
  done
end T30
