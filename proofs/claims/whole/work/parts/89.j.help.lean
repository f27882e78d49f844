/-! THE LAW'S HELPERS: a call of the class, its answer or what it threw -/
def HQ (X : Nat × (Nat → Int32)) (t : Nat) (M : Mem) (Q : MOut → MHp → Prop) (c : Int → Int) (r : R3) : Prop := ∀ s dh dl, (∀ v S' M', r = (0, v, S') → RC S' M' → FC M M' → pk M' 175 0 = wz v → Q (rI 0) (mkh X s dh dl t M')) ∧ (∀ (E : Nat) S' M', r = ((E : Int) + 1, 0, S') → RC S' M' → FC M M' → Q (rI (c ((E : Int) + 1))) (mkh X s dh dl (t + 1) M'))
theorem oc_house {S : St} {n : Int} : (o_house S n).1 = 0 ∨ (o_house S n).1 = 2 := by
  unfold o_house
  (try unfold tkR)
  repeat' split
  all_goals simp
theorem oc_rules {S : St} {n : Int} : (o_rules S n).1 = 0 ∨ (o_rules S n).1 = 2 := by
  unfold o_rules
  (try unfold tkR)
  repeat' split
  all_goals simp
theorem oc_told {S : St} {w : Int} : (o_told S w).1 = 0 ∨ (o_told S w).1 = 2 := by
  unfold o_told
  (try unfold tkR)
  repeat' split
  all_goals simp
theorem oc_person {S : St} {p w : Int} : (o_person S p w).1 = 0 ∨ (o_person S p w).1 = 1 ∨ (o_person S p w).1 = 2 := by
  unfold o_person
  (try unfold tkR)
  repeat' split
  all_goals simp
theorem oc_income {S : St} {p m : Int} : (o_income S p m).1 = 0 ∨ (o_income S p m).1 = 1 ∨ (o_income S p m).1 = 2 := by
  unfold o_income
  (try unfold tkR)
  repeat' split
  all_goals simp
theorem oc_good {S : St} {g w : Int} : (o_good S g w).1 = 0 ∨ (o_good S g w).1 = 1 ∨ (o_good S g w).1 = 2 := by
  unfold o_good
  (try unfold tkR)
  repeat' split
  all_goals simp
theorem oc_part {S : St} {g p : Int} : (o_part S g p).1 = 0 ∨ (o_part S g p).1 = 1 := by
  unfold o_part
  (try unfold tkR)
  repeat' split
  all_goals simp
theorem oc_debt {S : St} {d w : Int} : (o_debt S d w).1 = 0 ∨ (o_debt S d w).1 = 1 ∨ (o_debt S d w).1 = 2 := by
  unfold o_debt
  (try unfold tkR)
  repeat' split
  all_goals simp
theorem oc_bars {S : St} {d g m o : Int} : (o_bars S d g m o).1 = 0 ∨ (o_bars S d g m o).1 = 1 ∨ (o_bars S d g m o).1 = 2 := by
  unfold o_bars
  (try unfold tkR)
  repeat' split
  all_goals simp
theorem oc_late {S : St} {d g m o : Int} : (o_late S d g m o).1 = 0 ∨ (o_late S d g m o).1 = 1 ∨ (o_late S d g m o).1 = 2 := by
  unfold o_late
  (try unfold tkR)
  repeat' split
  all_goals simp
theorem oc_isSo {S : St} {r d g m o : Int} : (o_isSo S r d g m o).1 = 0 ∨ (o_isSo S r d g m o).1 = 1 ∨ (o_isSo S r d g m o).1 = 2 := by
  unfold o_isSo
  (try unfold tkR)
  repeat' split
  all_goals simp
theorem oc_take {S : St} {d g m o : Int} : (o_take S d g m o).1 = 0 ∨ (o_take S d g m o).1 = 1 ∨ (o_take S d g m o).1 = 2 ∨ (o_take S d g m o).1 = 3 := by
  unfold o_take
  (try unfold tkR)
  repeat' split
  all_goals simp
theorem oc_act {S : St} {i w : Int} : (o_act S i w).1 = 0 ∨ (o_act S i w).1 = 2 := by
  unfold o_act
  (try unfold tkR)
  repeat' split
  all_goals simp
theorem oc_stage {S : St} {p k : Int} : (o_stage S p k).1 = 0 ∨ (o_stage S p k).1 = 1 ∨ (o_stage S p k).1 = 2 := by
  unfold o_stage
  (try unfold tkR)
  repeat' split
  all_goals simp
theorem oc_sell {S : St} {g x m : Int} : (o_sell S g x m).1 = 0 ∨ (o_sell S g x m).1 = 1 ∨ (o_sell S g x m).1 = 2 := by
  unfold o_sell
  (try unfold tkR)
  repeat' split
  all_goals simp
theorem oc_aside {S : St} {d : Int} : (o_aside S d).1 = 0 ∨ (o_aside S d).1 = 1 := by
  unfold o_aside
  (try unfold tkR)
  repeat' split
  all_goals simp
theorem oc_promise {S : St} {d m k : Int} : (o_promise S d m k).1 = 0 ∨ (o_promise S d m k).1 = 1 ∨ (o_promise S d m k).1 = 2 := by
  unfold o_promise
  (try unfold tkR)
  repeat' split
  all_goals simp
theorem oc_kept {S : St} {k w : Int} : (o_kept S k w).1 = 0 ∨ (o_kept S k w).1 = 1 ∨ (o_kept S k w).1 = 2 := by
  unfold o_kept
  (try unfold tkR)
  repeat' split
  all_goals simp
theorem oc_spare {S : St} {p m : Int} : (o_spare S p m).1 = 0 ∨ (o_spare S p m).1 = 1 ∨ (o_spare S p m).1 = 2 := by
  unfold o_spare
  (try unfold tkR)
  repeat' split
  all_goals simp
theorem oc_best {S : St} {d m w : Int} : (o_best S d m w).1 = 0 ∨ (o_best S d m w).1 = 1 ∨ (o_best S d m w).1 = 2 := by
  unfold o_best
  (try unfold tkR)
  repeat' split
  all_goals simp
theorem oc_cover {S : St} {d m o w : Int} : (o_cover S d m o w).1 = 0 ∨ (o_cover S d m o w).1 = 1 ∨ (o_cover S d m o w).1 = 2 := by
  unfold o_cover
  (try unfold tkR)
  repeat' split
  all_goals simp
theorem oc_when {S : St} {d g m o : Int} : (o_when S d g m o).1 = 0 ∨ (o_when S d g m o).1 = 1 ∨ (o_when S d g m o).1 = 2 := by
  unfold o_when
  (try unfold tkR)
  repeat' split
  all_goals simp
theorem oc_drawn {S : St} {p x w : Int} : (o_drawn S p x w).1 = 0 ∨ (o_drawn S p x w).1 = 1 ∨ (o_drawn S p x w).1 = 2 := by
  unfold o_drawn
  (try unfold tkR)
  repeat' split
  all_goals simp
section L89
variable {Q : MOut → MHp → Prop} {X : Nat × (Nat → Int32)} {s : Bool × Bool} {dh dl t : Nat} {M : Mem} {S : St}
theorem H202 {n : Int} (hC : RC S M) (hV : INV S) (w0 : wz n = n) (hQ : HQ X t M Q cA (o_house S n)) : CL 202 [.ref 0, vI n, .ref 175] (mkh X s dh dl t M) Q := by
  simp only [↓x_al_2, ↓x_c, ↓x_al_0, ↓x_il_1, ↓c_78, ↓x_i2l, ↓x_last, ↓x_go, ↓x_as_3, ↓x_ir, ↓n_202, ↓s_202_0, ↓s_202_15, ↓bk_v, ↓bk_n, ↓bk_r, ↓be_202_1, ↓pv_i, ↓pv_r, ↓pv_0, ↓pv_l, wz_pk, wz_ti, wz_wz, vI_wz, wz_id, wz_0, List.length_cons, List.length_nil, ↓reduceIte, true_and, and_true, Int.reduceLE, Int.reduceLT, Int.reduceEq, not_true_eq_false, not_false_eq_true, false_or, or_false, true_or, or_true, ite_not, Int.reduceNeg, Int32.reduceToInt, Nat.reduceAdd, Nat.reduceLeDiff, Nat.reduceLT, Nat.reduceEqDiff, Int.reduceAdd, Int.reduceSub, Int.reduceMul, Nat.zero_le, pk_po_ne, pk_po_eq, pk_po_ix, rI, ne_eq]
  refine K78 hC hV.2.2.2.1 w0 (fun s dh dl => ⟨fun v S' e M' hC' hF' => ?_, fun E S' e M' hC' hF' => ?_⟩)
  · have z := (hQ s dh dl).1 v S' (po M' 175 0 (wz v)) e (hC'.pw rfl (by decide)) (hF'.pw (by decide)) (by rw [pk_po_eq, wz_wz])
    simp only [↓x_al_2, ↓x_c, ↓x_al_0, ↓x_il_1, ↓c_78, ↓x_i2l, ↓x_last, ↓x_go, ↓x_as_3, ↓x_ir, ↓n_202, ↓s_202_0, ↓s_202_15, ↓bk_v, ↓bk_n, ↓bk_r, ↓be_202_1, ↓pv_i, ↓pv_r, ↓pv_0, ↓pv_l, wz_pk, wz_ti, wz_wz, vI_wz, wz_id, wz_0, List.length_cons, List.length_nil, ↓reduceIte, true_and, and_true, Int.reduceLE, Int.reduceLT, Int.reduceEq, not_true_eq_false, not_false_eq_true, false_or, or_false, true_or, or_true, ite_not, Int.reduceNeg, Int32.reduceToInt, Nat.reduceAdd, Nat.reduceLeDiff, Nat.reduceLT, Nat.reduceEqDiff, Int.reduceAdd, Int.reduceSub, Int.reduceMul, Nat.zero_le, pk_po_ne, pk_po_eq, pk_po_ix, rI, ne_eq]
    rw [set_out (wz_lo _) (wz_hi _)]
    exact z
  · have z := (hQ s dh dl).2 E S' M' e hC' hF'
    have oc := oc_house (S := S) (n := n)
    rw [e] at oc
    simp only at oc
    have hE : E = 1 := by omega
    subst hE
    simp only [↓x_al_2, ↓x_c, ↓x_al_0, ↓x_il_1, ↓c_78, ↓x_i2l, ↓x_last, ↓x_go, ↓x_as_3, ↓x_ir, ↓n_202, ↓s_202_0, ↓s_202_15, ↓bk_v, ↓bk_n, ↓bk_r, ↓be_202_1, ↓pv_i, ↓pv_r, ↓pv_0, ↓pv_l, wz_pk, wz_ti, wz_wz, vI_wz, wz_id, wz_0, List.length_cons, List.length_nil, ↓reduceIte, true_and, and_true, Int.reduceLE, Int.reduceLT, Int.reduceEq, not_true_eq_false, not_false_eq_true, false_or, or_false, true_or, or_true, ite_not, Int.reduceNeg, Int32.reduceToInt, Nat.reduceAdd, Nat.reduceLeDiff, Nat.reduceLT, Nat.reduceEqDiff, Int.reduceAdd, Int.reduceSub, Int.reduceMul, Nat.zero_le, pk_po_ne, pk_po_eq, pk_po_ix, rI, ne_eq]
    exact z
theorem H203 {n : Int} (hC : RC S M) (hV : INV S) (w0 : wz n = n) (hQ : HQ X t M Q cA (o_rules S n)) : CL 203 [.ref 0, vI n, .ref 175] (mkh X s dh dl t M) Q := by
  simp only [↓x_al_2, ↓x_c, ↓x_al_0, ↓x_il_1, ↓c_79, ↓x_i2l, ↓x_last, ↓x_go, ↓x_as_3, ↓x_ir, ↓n_203, ↓s_203_0, ↓s_203_15, ↓bk_v, ↓bk_n, ↓bk_r, ↓be_203_1, ↓pv_i, ↓pv_r, ↓pv_0, ↓pv_l, wz_pk, wz_ti, wz_wz, vI_wz, wz_id, wz_0, List.length_cons, List.length_nil, ↓reduceIte, true_and, and_true, Int.reduceLE, Int.reduceLT, Int.reduceEq, not_true_eq_false, not_false_eq_true, false_or, or_false, true_or, or_true, ite_not, Int.reduceNeg, Int32.reduceToInt, Nat.reduceAdd, Nat.reduceLeDiff, Nat.reduceLT, Nat.reduceEqDiff, Int.reduceAdd, Int.reduceSub, Int.reduceMul, Nat.zero_le, pk_po_ne, pk_po_eq, pk_po_ix, rI, ne_eq]
  refine K79 hC hV.2.2.2.1 w0 (fun s dh dl => ⟨fun v S' e M' hC' hF' => ?_, fun E S' e M' hC' hF' => ?_⟩)
  · have z := (hQ s dh dl).1 v S' (po M' 175 0 (wz v)) e (hC'.pw rfl (by decide)) (hF'.pw (by decide)) (by rw [pk_po_eq, wz_wz])
    simp only [↓x_al_2, ↓x_c, ↓x_al_0, ↓x_il_1, ↓c_79, ↓x_i2l, ↓x_last, ↓x_go, ↓x_as_3, ↓x_ir, ↓n_203, ↓s_203_0, ↓s_203_15, ↓bk_v, ↓bk_n, ↓bk_r, ↓be_203_1, ↓pv_i, ↓pv_r, ↓pv_0, ↓pv_l, wz_pk, wz_ti, wz_wz, vI_wz, wz_id, wz_0, List.length_cons, List.length_nil, ↓reduceIte, true_and, and_true, Int.reduceLE, Int.reduceLT, Int.reduceEq, not_true_eq_false, not_false_eq_true, false_or, or_false, true_or, or_true, ite_not, Int.reduceNeg, Int32.reduceToInt, Nat.reduceAdd, Nat.reduceLeDiff, Nat.reduceLT, Nat.reduceEqDiff, Int.reduceAdd, Int.reduceSub, Int.reduceMul, Nat.zero_le, pk_po_ne, pk_po_eq, pk_po_ix, rI, ne_eq]
    rw [set_out (wz_lo _) (wz_hi _)]
    exact z
  · have z := (hQ s dh dl).2 E S' M' e hC' hF'
    have oc := oc_rules (S := S) (n := n)
    rw [e] at oc
    simp only at oc
    have hE : E = 1 := by omega
    subst hE
    simp only [↓x_al_2, ↓x_c, ↓x_al_0, ↓x_il_1, ↓c_79, ↓x_i2l, ↓x_last, ↓x_go, ↓x_as_3, ↓x_ir, ↓n_203, ↓s_203_0, ↓s_203_15, ↓bk_v, ↓bk_n, ↓bk_r, ↓be_203_1, ↓pv_i, ↓pv_r, ↓pv_0, ↓pv_l, wz_pk, wz_ti, wz_wz, vI_wz, wz_id, wz_0, List.length_cons, List.length_nil, ↓reduceIte, true_and, and_true, Int.reduceLE, Int.reduceLT, Int.reduceEq, not_true_eq_false, not_false_eq_true, false_or, or_false, true_or, or_true, ite_not, Int.reduceNeg, Int32.reduceToInt, Nat.reduceAdd, Nat.reduceLeDiff, Nat.reduceLT, Nat.reduceEqDiff, Int.reduceAdd, Int.reduceSub, Int.reduceMul, Nat.zero_le, pk_po_ne, pk_po_eq, pk_po_ix, rI, ne_eq]
    exact z
theorem H204 {w : Int} (hC : RC S M) (hV : INV S) (w0 : wz w = w) (hQ : HQ X t M Q cA (o_told S w)) : CL 204 [.ref 0, vI w, .ref 175] (mkh X s dh dl t M) Q := by
  simp only [↓x_al_2, ↓x_c, ↓x_al_0, ↓x_il_1, ↓c_81, ↓x_i2l, ↓x_last, ↓x_go, ↓x_as_3, ↓x_ir, ↓n_204, ↓s_204_0, ↓s_204_15, ↓bk_v, ↓bk_n, ↓bk_r, ↓be_204_1, ↓pv_i, ↓pv_r, ↓pv_0, ↓pv_l, wz_pk, wz_ti, wz_wz, vI_wz, wz_id, wz_0, List.length_cons, List.length_nil, ↓reduceIte, true_and, and_true, Int.reduceLE, Int.reduceLT, Int.reduceEq, not_true_eq_false, not_false_eq_true, false_or, or_false, true_or, or_true, ite_not, Int.reduceNeg, Int32.reduceToInt, Nat.reduceAdd, Nat.reduceLeDiff, Nat.reduceLT, Nat.reduceEqDiff, Int.reduceAdd, Int.reduceSub, Int.reduceMul, Nat.zero_le, pk_po_ne, pk_po_eq, pk_po_ix, rI, ne_eq]
  refine K81 hC w0 ⟨fun v S' e M' hC' hF' => ?_, fun E S' e M' hC' hF' => ?_⟩
  · have z := (hQ s dh dl).1 v S' (po M' 175 0 (wz v)) e (hC'.pw rfl (by decide)) (hF'.pw (by decide)) (by rw [pk_po_eq, wz_wz])
    simp only [↓x_al_2, ↓x_c, ↓x_al_0, ↓x_il_1, ↓c_81, ↓x_i2l, ↓x_last, ↓x_go, ↓x_as_3, ↓x_ir, ↓n_204, ↓s_204_0, ↓s_204_15, ↓bk_v, ↓bk_n, ↓bk_r, ↓be_204_1, ↓pv_i, ↓pv_r, ↓pv_0, ↓pv_l, wz_pk, wz_ti, wz_wz, vI_wz, wz_id, wz_0, List.length_cons, List.length_nil, ↓reduceIte, true_and, and_true, Int.reduceLE, Int.reduceLT, Int.reduceEq, not_true_eq_false, not_false_eq_true, false_or, or_false, true_or, or_true, ite_not, Int.reduceNeg, Int32.reduceToInt, Nat.reduceAdd, Nat.reduceLeDiff, Nat.reduceLT, Nat.reduceEqDiff, Int.reduceAdd, Int.reduceSub, Int.reduceMul, Nat.zero_le, pk_po_ne, pk_po_eq, pk_po_ix, rI, ne_eq]
    rw [set_out (wz_lo _) (wz_hi _)]
    exact z
  · have z := (hQ s dh dl).2 E S' M' e hC' hF'
    have oc := oc_told (S := S) (w := w)
    rw [e] at oc
    simp only at oc
    have hE : E = 1 := by omega
    subst hE
    simp only [↓x_al_2, ↓x_c, ↓x_al_0, ↓x_il_1, ↓c_81, ↓x_i2l, ↓x_last, ↓x_go, ↓x_as_3, ↓x_ir, ↓n_204, ↓s_204_0, ↓s_204_15, ↓bk_v, ↓bk_n, ↓bk_r, ↓be_204_1, ↓pv_i, ↓pv_r, ↓pv_0, ↓pv_l, wz_pk, wz_ti, wz_wz, vI_wz, wz_id, wz_0, List.length_cons, List.length_nil, ↓reduceIte, true_and, and_true, Int.reduceLE, Int.reduceLT, Int.reduceEq, not_true_eq_false, not_false_eq_true, false_or, or_false, true_or, or_true, ite_not, Int.reduceNeg, Int32.reduceToInt, Nat.reduceAdd, Nat.reduceLeDiff, Nat.reduceLT, Nat.reduceEqDiff, Int.reduceAdd, Int.reduceSub, Int.reduceMul, Nat.zero_le, pk_po_ne, pk_po_eq, pk_po_ix, rI, ne_eq]
    exact z
theorem H205 {p w : Int} (hC : RC S M) (hV : INV S) (w0 : wz p = p) (w1 : wz w = w) (hQ : HQ X t M Q cB (o_person S p w)) : CL 205 [.ref 0, vI p, vI w, .ref 175] (mkh X s dh dl t M) Q := by
  simp only [↓x_al_3, ↓x_c, ↓x_al_0, ↓x_il_1, ↓x_il_2, ↓c_82, ↓x_i2l, ↓x_last, ↓x_go, ↓x_as_4, ↓x_ir, ↓n_205, ↓s_205_0, ↓s_205_21, ↓bk_v, ↓bk_n, ↓bk_r, ↓be_205_0, ↓be_205_1, ↓pv_i, ↓pv_r, ↓pv_0, ↓pv_l, wz_pk, wz_ti, wz_wz, vI_wz, wz_id, wz_0, List.length_cons, List.length_nil, ↓reduceIte, true_and, and_true, Int.reduceLE, Int.reduceLT, Int.reduceEq, not_true_eq_false, not_false_eq_true, false_or, or_false, true_or, or_true, ite_not, Int.reduceNeg, Int32.reduceToInt, Nat.reduceAdd, Nat.reduceLeDiff, Nat.reduceLT, Nat.reduceEqDiff, Int.reduceAdd, Int.reduceSub, Int.reduceMul, Nat.zero_le, pk_po_ne, pk_po_eq, pk_po_ix, rI, ne_eq]
  refine K82 hC hV.1 hV.2.2.1 w0 w1 ⟨fun v S' e M' hC' hF' => ?_, fun E S' e M' hC' hF' => ?_⟩
  · have z := (hQ s dh dl).1 v S' (po M' 175 0 (wz v)) e (hC'.pw rfl (by decide)) (hF'.pw (by decide)) (by rw [pk_po_eq, wz_wz])
    simp only [↓x_al_3, ↓x_c, ↓x_al_0, ↓x_il_1, ↓x_il_2, ↓c_82, ↓x_i2l, ↓x_last, ↓x_go, ↓x_as_4, ↓x_ir, ↓n_205, ↓s_205_0, ↓s_205_21, ↓bk_v, ↓bk_n, ↓bk_r, ↓be_205_0, ↓be_205_1, ↓pv_i, ↓pv_r, ↓pv_0, ↓pv_l, wz_pk, wz_ti, wz_wz, vI_wz, wz_id, wz_0, List.length_cons, List.length_nil, ↓reduceIte, true_and, and_true, Int.reduceLE, Int.reduceLT, Int.reduceEq, not_true_eq_false, not_false_eq_true, false_or, or_false, true_or, or_true, ite_not, Int.reduceNeg, Int32.reduceToInt, Nat.reduceAdd, Nat.reduceLeDiff, Nat.reduceLT, Nat.reduceEqDiff, Int.reduceAdd, Int.reduceSub, Int.reduceMul, Nat.zero_le, pk_po_ne, pk_po_eq, pk_po_ix, rI, ne_eq]
    rw [set_out (wz_lo _) (wz_hi _)]
    exact z
  · have z := (hQ s dh dl).2 E S' M' e hC' hF'
    have oc := oc_person (S := S) (p := p) (w := w)
    rw [e] at oc
    simp only at oc
    have hE : E = 0 ∨ E = 1 := by omega
    rcases hE with rfl | rfl
    · simp only [↓x_al_3, ↓x_c, ↓x_al_0, ↓x_il_1, ↓x_il_2, ↓c_82, ↓x_i2l, ↓x_last, ↓x_go, ↓x_as_4, ↓x_ir, ↓n_205, ↓s_205_0, ↓s_205_21, ↓bk_v, ↓bk_n, ↓bk_r, ↓be_205_0, ↓be_205_1, ↓pv_i, ↓pv_r, ↓pv_0, ↓pv_l, wz_pk, wz_ti, wz_wz, vI_wz, wz_id, wz_0, List.length_cons, List.length_nil, ↓reduceIte, true_and, and_true, Int.reduceLE, Int.reduceLT, Int.reduceEq, not_true_eq_false, not_false_eq_true, false_or, or_false, true_or, or_true, ite_not, Int.reduceNeg, Int32.reduceToInt, Nat.reduceAdd, Nat.reduceLeDiff, Nat.reduceLT, Nat.reduceEqDiff, Int.reduceAdd, Int.reduceSub, Int.reduceMul, Nat.zero_le, pk_po_ne, pk_po_eq, pk_po_ix, rI, ne_eq]
      exact z
    · simp only [↓x_al_3, ↓x_c, ↓x_al_0, ↓x_il_1, ↓x_il_2, ↓c_82, ↓x_i2l, ↓x_last, ↓x_go, ↓x_as_4, ↓x_ir, ↓n_205, ↓s_205_0, ↓s_205_21, ↓bk_v, ↓bk_n, ↓bk_r, ↓be_205_0, ↓be_205_1, ↓pv_i, ↓pv_r, ↓pv_0, ↓pv_l, wz_pk, wz_ti, wz_wz, vI_wz, wz_id, wz_0, List.length_cons, List.length_nil, ↓reduceIte, true_and, and_true, Int.reduceLE, Int.reduceLT, Int.reduceEq, not_true_eq_false, not_false_eq_true, false_or, or_false, true_or, or_true, ite_not, Int.reduceNeg, Int32.reduceToInt, Nat.reduceAdd, Nat.reduceLeDiff, Nat.reduceLT, Nat.reduceEqDiff, Int.reduceAdd, Int.reduceSub, Int.reduceMul, Nat.zero_le, pk_po_ne, pk_po_eq, pk_po_ix, rI, ne_eq]
      exact z
theorem H206 {p m : Int} (hC : RC S M) (hV : INV S) (w0 : wz p = p) (w1 : wz m = m) (hQ : HQ X t M Q cB (o_income S p m)) : CL 206 [.ref 0, vI p, vI m, .ref 175] (mkh X s dh dl t M) Q := by
  simp only [↓x_al_3, ↓x_c, ↓x_al_0, ↓x_il_1, ↓x_il_2, ↓c_83, ↓x_i2l, ↓x_last, ↓x_go, ↓x_as_4, ↓x_ir, ↓n_206, ↓s_206_0, ↓s_206_21, ↓bk_v, ↓bk_n, ↓bk_r, ↓be_206_0, ↓be_206_1, ↓pv_i, ↓pv_r, ↓pv_0, ↓pv_l, wz_pk, wz_ti, wz_wz, vI_wz, wz_id, wz_0, List.length_cons, List.length_nil, ↓reduceIte, true_and, and_true, Int.reduceLE, Int.reduceLT, Int.reduceEq, not_true_eq_false, not_false_eq_true, false_or, or_false, true_or, or_true, ite_not, Int.reduceNeg, Int32.reduceToInt, Nat.reduceAdd, Nat.reduceLeDiff, Nat.reduceLT, Nat.reduceEqDiff, Int.reduceAdd, Int.reduceSub, Int.reduceMul, Nat.zero_le, pk_po_ne, pk_po_eq, pk_po_ix, rI, ne_eq]
  refine K83 hC hV.1 w0 w1 ⟨fun v S' e M' hC' hF' => ?_, fun E S' e M' hC' hF' => ?_⟩
  · have z := (hQ s dh dl).1 v S' (po M' 175 0 (wz v)) e (hC'.pw rfl (by decide)) (hF'.pw (by decide)) (by rw [pk_po_eq, wz_wz])
    simp only [↓x_al_3, ↓x_c, ↓x_al_0, ↓x_il_1, ↓x_il_2, ↓c_83, ↓x_i2l, ↓x_last, ↓x_go, ↓x_as_4, ↓x_ir, ↓n_206, ↓s_206_0, ↓s_206_21, ↓bk_v, ↓bk_n, ↓bk_r, ↓be_206_0, ↓be_206_1, ↓pv_i, ↓pv_r, ↓pv_0, ↓pv_l, wz_pk, wz_ti, wz_wz, vI_wz, wz_id, wz_0, List.length_cons, List.length_nil, ↓reduceIte, true_and, and_true, Int.reduceLE, Int.reduceLT, Int.reduceEq, not_true_eq_false, not_false_eq_true, false_or, or_false, true_or, or_true, ite_not, Int.reduceNeg, Int32.reduceToInt, Nat.reduceAdd, Nat.reduceLeDiff, Nat.reduceLT, Nat.reduceEqDiff, Int.reduceAdd, Int.reduceSub, Int.reduceMul, Nat.zero_le, pk_po_ne, pk_po_eq, pk_po_ix, rI, ne_eq]
    rw [set_out (wz_lo _) (wz_hi _)]
    exact z
  · have z := (hQ s dh dl).2 E S' M' e hC' hF'
    have oc := oc_income (S := S) (p := p) (m := m)
    rw [e] at oc
    simp only at oc
    have hE : E = 0 ∨ E = 1 := by omega
    rcases hE with rfl | rfl
    · simp only [↓x_al_3, ↓x_c, ↓x_al_0, ↓x_il_1, ↓x_il_2, ↓c_83, ↓x_i2l, ↓x_last, ↓x_go, ↓x_as_4, ↓x_ir, ↓n_206, ↓s_206_0, ↓s_206_21, ↓bk_v, ↓bk_n, ↓bk_r, ↓be_206_0, ↓be_206_1, ↓pv_i, ↓pv_r, ↓pv_0, ↓pv_l, wz_pk, wz_ti, wz_wz, vI_wz, wz_id, wz_0, List.length_cons, List.length_nil, ↓reduceIte, true_and, and_true, Int.reduceLE, Int.reduceLT, Int.reduceEq, not_true_eq_false, not_false_eq_true, false_or, or_false, true_or, or_true, ite_not, Int.reduceNeg, Int32.reduceToInt, Nat.reduceAdd, Nat.reduceLeDiff, Nat.reduceLT, Nat.reduceEqDiff, Int.reduceAdd, Int.reduceSub, Int.reduceMul, Nat.zero_le, pk_po_ne, pk_po_eq, pk_po_ix, rI, ne_eq]
      exact z
    · simp only [↓x_al_3, ↓x_c, ↓x_al_0, ↓x_il_1, ↓x_il_2, ↓c_83, ↓x_i2l, ↓x_last, ↓x_go, ↓x_as_4, ↓x_ir, ↓n_206, ↓s_206_0, ↓s_206_21, ↓bk_v, ↓bk_n, ↓bk_r, ↓be_206_0, ↓be_206_1, ↓pv_i, ↓pv_r, ↓pv_0, ↓pv_l, wz_pk, wz_ti, wz_wz, vI_wz, wz_id, wz_0, List.length_cons, List.length_nil, ↓reduceIte, true_and, and_true, Int.reduceLE, Int.reduceLT, Int.reduceEq, not_true_eq_false, not_false_eq_true, false_or, or_false, true_or, or_true, ite_not, Int.reduceNeg, Int32.reduceToInt, Nat.reduceAdd, Nat.reduceLeDiff, Nat.reduceLT, Nat.reduceEqDiff, Int.reduceAdd, Int.reduceSub, Int.reduceMul, Nat.zero_le, pk_po_ne, pk_po_eq, pk_po_ix, rI, ne_eq]
      exact z
theorem H207 {g w : Int} (hC : RC S M) (hV : INV S) (w0 : wz g = g) (w1 : wz w = w) (hQ : HQ X t M Q cB (o_good S g w)) : CL 207 [.ref 0, vI g, vI w, .ref 175] (mkh X s dh dl t M) Q := by
  simp only [↓x_al_3, ↓x_c, ↓x_al_0, ↓x_il_1, ↓x_il_2, ↓c_84, ↓x_i2l, ↓x_last, ↓x_go, ↓x_as_4, ↓x_ir, ↓n_207, ↓s_207_0, ↓s_207_21, ↓bk_v, ↓bk_n, ↓bk_r, ↓be_207_0, ↓be_207_1, ↓pv_i, ↓pv_r, ↓pv_0, ↓pv_l, wz_pk, wz_ti, wz_wz, vI_wz, wz_id, wz_0, List.length_cons, List.length_nil, ↓reduceIte, true_and, and_true, Int.reduceLE, Int.reduceLT, Int.reduceEq, not_true_eq_false, not_false_eq_true, false_or, or_false, true_or, or_true, ite_not, Int.reduceNeg, Int32.reduceToInt, Nat.reduceAdd, Nat.reduceLeDiff, Nat.reduceLT, Nat.reduceEqDiff, Int.reduceAdd, Int.reduceSub, Int.reduceMul, Nat.zero_le, pk_po_ne, pk_po_eq, pk_po_ix, rI, ne_eq]
  refine K84 hC hV.1 hV.2.2.1 w0 w1 ⟨fun v S' e M' hC' hF' => ?_, fun E S' e M' hC' hF' => ?_⟩
  · have z := (hQ s dh dl).1 v S' (po M' 175 0 (wz v)) e (hC'.pw rfl (by decide)) (hF'.pw (by decide)) (by rw [pk_po_eq, wz_wz])
    simp only [↓x_al_3, ↓x_c, ↓x_al_0, ↓x_il_1, ↓x_il_2, ↓c_84, ↓x_i2l, ↓x_last, ↓x_go, ↓x_as_4, ↓x_ir, ↓n_207, ↓s_207_0, ↓s_207_21, ↓bk_v, ↓bk_n, ↓bk_r, ↓be_207_0, ↓be_207_1, ↓pv_i, ↓pv_r, ↓pv_0, ↓pv_l, wz_pk, wz_ti, wz_wz, vI_wz, wz_id, wz_0, List.length_cons, List.length_nil, ↓reduceIte, true_and, and_true, Int.reduceLE, Int.reduceLT, Int.reduceEq, not_true_eq_false, not_false_eq_true, false_or, or_false, true_or, or_true, ite_not, Int.reduceNeg, Int32.reduceToInt, Nat.reduceAdd, Nat.reduceLeDiff, Nat.reduceLT, Nat.reduceEqDiff, Int.reduceAdd, Int.reduceSub, Int.reduceMul, Nat.zero_le, pk_po_ne, pk_po_eq, pk_po_ix, rI, ne_eq]
    rw [set_out (wz_lo _) (wz_hi _)]
    exact z
  · have z := (hQ s dh dl).2 E S' M' e hC' hF'
    have oc := oc_good (S := S) (g := g) (w := w)
    rw [e] at oc
    simp only at oc
    have hE : E = 0 ∨ E = 1 := by omega
    rcases hE with rfl | rfl
    · simp only [↓x_al_3, ↓x_c, ↓x_al_0, ↓x_il_1, ↓x_il_2, ↓c_84, ↓x_i2l, ↓x_last, ↓x_go, ↓x_as_4, ↓x_ir, ↓n_207, ↓s_207_0, ↓s_207_21, ↓bk_v, ↓bk_n, ↓bk_r, ↓be_207_0, ↓be_207_1, ↓pv_i, ↓pv_r, ↓pv_0, ↓pv_l, wz_pk, wz_ti, wz_wz, vI_wz, wz_id, wz_0, List.length_cons, List.length_nil, ↓reduceIte, true_and, and_true, Int.reduceLE, Int.reduceLT, Int.reduceEq, not_true_eq_false, not_false_eq_true, false_or, or_false, true_or, or_true, ite_not, Int.reduceNeg, Int32.reduceToInt, Nat.reduceAdd, Nat.reduceLeDiff, Nat.reduceLT, Nat.reduceEqDiff, Int.reduceAdd, Int.reduceSub, Int.reduceMul, Nat.zero_le, pk_po_ne, pk_po_eq, pk_po_ix, rI, ne_eq]
      exact z
    · simp only [↓x_al_3, ↓x_c, ↓x_al_0, ↓x_il_1, ↓x_il_2, ↓c_84, ↓x_i2l, ↓x_last, ↓x_go, ↓x_as_4, ↓x_ir, ↓n_207, ↓s_207_0, ↓s_207_21, ↓bk_v, ↓bk_n, ↓bk_r, ↓be_207_0, ↓be_207_1, ↓pv_i, ↓pv_r, ↓pv_0, ↓pv_l, wz_pk, wz_ti, wz_wz, vI_wz, wz_id, wz_0, List.length_cons, List.length_nil, ↓reduceIte, true_and, and_true, Int.reduceLE, Int.reduceLT, Int.reduceEq, not_true_eq_false, not_false_eq_true, false_or, or_false, true_or, or_true, ite_not, Int.reduceNeg, Int32.reduceToInt, Nat.reduceAdd, Nat.reduceLeDiff, Nat.reduceLT, Nat.reduceEqDiff, Int.reduceAdd, Int.reduceSub, Int.reduceMul, Nat.zero_le, pk_po_ne, pk_po_eq, pk_po_ix, rI, ne_eq]
      exact z
theorem H208 {g p : Int} (hC : RC S M) (hV : INV S) (w0 : wz g = g) (w1 : wz p = p) (hQ : HQ X t M Q cA (o_part S g p)) : CL 208 [.ref 0, vI g, vI p, .ref 175] (mkh X s dh dl t M) Q := by
  simp only [↓x_al_3, ↓x_c, ↓x_al_0, ↓x_il_1, ↓x_il_2, ↓c_85, ↓x_i2l, ↓x_last, ↓x_go, ↓x_as_4, ↓x_ir, ↓n_208, ↓s_208_0, ↓s_208_17, ↓bk_v, ↓bk_n, ↓bk_r, ↓be_208_0, ↓pv_i, ↓pv_r, ↓pv_0, ↓pv_l, wz_pk, wz_ti, wz_wz, vI_wz, wz_id, wz_0, List.length_cons, List.length_nil, ↓reduceIte, true_and, and_true, Int.reduceLE, Int.reduceLT, Int.reduceEq, not_true_eq_false, not_false_eq_true, false_or, or_false, true_or, or_true, ite_not, Int.reduceNeg, Int32.reduceToInt, Nat.reduceAdd, Nat.reduceLeDiff, Nat.reduceLT, Nat.reduceEqDiff, Int.reduceAdd, Int.reduceSub, Int.reduceMul, Nat.zero_le, pk_po_ne, pk_po_eq, pk_po_ix, rI, ne_eq]
  refine K85 hC hV.1 w0 w1 ⟨fun v S' e M' hC' hF' => ?_, fun E S' e M' hC' hF' => ?_⟩
  · have z := (hQ s dh dl).1 v S' (po M' 175 0 (wz v)) e (hC'.pw rfl (by decide)) (hF'.pw (by decide)) (by rw [pk_po_eq, wz_wz])
    simp only [↓x_al_3, ↓x_c, ↓x_al_0, ↓x_il_1, ↓x_il_2, ↓c_85, ↓x_i2l, ↓x_last, ↓x_go, ↓x_as_4, ↓x_ir, ↓n_208, ↓s_208_0, ↓s_208_17, ↓bk_v, ↓bk_n, ↓bk_r, ↓be_208_0, ↓pv_i, ↓pv_r, ↓pv_0, ↓pv_l, wz_pk, wz_ti, wz_wz, vI_wz, wz_id, wz_0, List.length_cons, List.length_nil, ↓reduceIte, true_and, and_true, Int.reduceLE, Int.reduceLT, Int.reduceEq, not_true_eq_false, not_false_eq_true, false_or, or_false, true_or, or_true, ite_not, Int.reduceNeg, Int32.reduceToInt, Nat.reduceAdd, Nat.reduceLeDiff, Nat.reduceLT, Nat.reduceEqDiff, Int.reduceAdd, Int.reduceSub, Int.reduceMul, Nat.zero_le, pk_po_ne, pk_po_eq, pk_po_ix, rI, ne_eq]
    rw [set_out (wz_lo _) (wz_hi _)]
    exact z
  · have z := (hQ s dh dl).2 E S' M' e hC' hF'
    have oc := oc_part (S := S) (g := g) (p := p)
    rw [e] at oc
    simp only at oc
    have hE : E = 0 := by omega
    subst hE
    simp only [↓x_al_3, ↓x_c, ↓x_al_0, ↓x_il_1, ↓x_il_2, ↓c_85, ↓x_i2l, ↓x_last, ↓x_go, ↓x_as_4, ↓x_ir, ↓n_208, ↓s_208_0, ↓s_208_17, ↓bk_v, ↓bk_n, ↓bk_r, ↓be_208_0, ↓pv_i, ↓pv_r, ↓pv_0, ↓pv_l, wz_pk, wz_ti, wz_wz, vI_wz, wz_id, wz_0, List.length_cons, List.length_nil, ↓reduceIte, true_and, and_true, Int.reduceLE, Int.reduceLT, Int.reduceEq, not_true_eq_false, not_false_eq_true, false_or, or_false, true_or, or_true, ite_not, Int.reduceNeg, Int32.reduceToInt, Nat.reduceAdd, Nat.reduceLeDiff, Nat.reduceLT, Nat.reduceEqDiff, Int.reduceAdd, Int.reduceSub, Int.reduceMul, Nat.zero_le, pk_po_ne, pk_po_eq, pk_po_ix, rI, ne_eq]
    exact z
theorem H209 {d w : Int} (hC : RC S M) (hV : INV S) (w0 : wz d = d) (w1 : wz w = w) (hQ : HQ X t M Q cB (o_debt S d w)) : CL 209 [.ref 0, vI d, vI w, .ref 175] (mkh X s dh dl t M) Q := by
  simp only [↓x_al_3, ↓x_c, ↓x_al_0, ↓x_il_1, ↓x_il_2, ↓c_86, ↓x_i2l, ↓x_last, ↓x_go, ↓x_as_4, ↓x_ir, ↓n_209, ↓s_209_0, ↓s_209_21, ↓bk_v, ↓bk_n, ↓bk_r, ↓be_209_0, ↓be_209_1, ↓pv_i, ↓pv_r, ↓pv_0, ↓pv_l, wz_pk, wz_ti, wz_wz, vI_wz, wz_id, wz_0, List.length_cons, List.length_nil, ↓reduceIte, true_and, and_true, Int.reduceLE, Int.reduceLT, Int.reduceEq, not_true_eq_false, not_false_eq_true, false_or, or_false, true_or, or_true, ite_not, Int.reduceNeg, Int32.reduceToInt, Nat.reduceAdd, Nat.reduceLeDiff, Nat.reduceLT, Nat.reduceEqDiff, Int.reduceAdd, Int.reduceSub, Int.reduceMul, Nat.zero_le, pk_po_ne, pk_po_eq, pk_po_ix, rI, ne_eq]
  refine K86 hC hV.1 hV.2.2.1 w0 w1 ⟨fun v S' e M' hC' hF' => ?_, fun E S' e M' hC' hF' => ?_⟩
  · have z := (hQ s dh dl).1 v S' (po M' 175 0 (wz v)) e (hC'.pw rfl (by decide)) (hF'.pw (by decide)) (by rw [pk_po_eq, wz_wz])
    simp only [↓x_al_3, ↓x_c, ↓x_al_0, ↓x_il_1, ↓x_il_2, ↓c_86, ↓x_i2l, ↓x_last, ↓x_go, ↓x_as_4, ↓x_ir, ↓n_209, ↓s_209_0, ↓s_209_21, ↓bk_v, ↓bk_n, ↓bk_r, ↓be_209_0, ↓be_209_1, ↓pv_i, ↓pv_r, ↓pv_0, ↓pv_l, wz_pk, wz_ti, wz_wz, vI_wz, wz_id, wz_0, List.length_cons, List.length_nil, ↓reduceIte, true_and, and_true, Int.reduceLE, Int.reduceLT, Int.reduceEq, not_true_eq_false, not_false_eq_true, false_or, or_false, true_or, or_true, ite_not, Int.reduceNeg, Int32.reduceToInt, Nat.reduceAdd, Nat.reduceLeDiff, Nat.reduceLT, Nat.reduceEqDiff, Int.reduceAdd, Int.reduceSub, Int.reduceMul, Nat.zero_le, pk_po_ne, pk_po_eq, pk_po_ix, rI, ne_eq]
    rw [set_out (wz_lo _) (wz_hi _)]
    exact z
  · have z := (hQ s dh dl).2 E S' M' e hC' hF'
    have oc := oc_debt (S := S) (d := d) (w := w)
    rw [e] at oc
    simp only at oc
    have hE : E = 0 ∨ E = 1 := by omega
    rcases hE with rfl | rfl
    · simp only [↓x_al_3, ↓x_c, ↓x_al_0, ↓x_il_1, ↓x_il_2, ↓c_86, ↓x_i2l, ↓x_last, ↓x_go, ↓x_as_4, ↓x_ir, ↓n_209, ↓s_209_0, ↓s_209_21, ↓bk_v, ↓bk_n, ↓bk_r, ↓be_209_0, ↓be_209_1, ↓pv_i, ↓pv_r, ↓pv_0, ↓pv_l, wz_pk, wz_ti, wz_wz, vI_wz, wz_id, wz_0, List.length_cons, List.length_nil, ↓reduceIte, true_and, and_true, Int.reduceLE, Int.reduceLT, Int.reduceEq, not_true_eq_false, not_false_eq_true, false_or, or_false, true_or, or_true, ite_not, Int.reduceNeg, Int32.reduceToInt, Nat.reduceAdd, Nat.reduceLeDiff, Nat.reduceLT, Nat.reduceEqDiff, Int.reduceAdd, Int.reduceSub, Int.reduceMul, Nat.zero_le, pk_po_ne, pk_po_eq, pk_po_ix, rI, ne_eq]
      exact z
    · simp only [↓x_al_3, ↓x_c, ↓x_al_0, ↓x_il_1, ↓x_il_2, ↓c_86, ↓x_i2l, ↓x_last, ↓x_go, ↓x_as_4, ↓x_ir, ↓n_209, ↓s_209_0, ↓s_209_21, ↓bk_v, ↓bk_n, ↓bk_r, ↓be_209_0, ↓be_209_1, ↓pv_i, ↓pv_r, ↓pv_0, ↓pv_l, wz_pk, wz_ti, wz_wz, vI_wz, wz_id, wz_0, List.length_cons, List.length_nil, ↓reduceIte, true_and, and_true, Int.reduceLE, Int.reduceLT, Int.reduceEq, not_true_eq_false, not_false_eq_true, false_or, or_false, true_or, or_true, ite_not, Int.reduceNeg, Int32.reduceToInt, Nat.reduceAdd, Nat.reduceLeDiff, Nat.reduceLT, Nat.reduceEqDiff, Int.reduceAdd, Int.reduceSub, Int.reduceMul, Nat.zero_le, pk_po_ne, pk_po_eq, pk_po_ix, rI, ne_eq]
      exact z
theorem H210 {d g m o : Int} (hC : RC S M) (hV : INV S) (w0 : wz d = d) (w1 : wz g = g) (w2 : wz m = m) (w3 : wz o = o) (hQ : HQ X t M Q cB (o_bars S d g m o)) : CL 210 [.ref 0, vI d, vI g, vI m, vI o, .ref 175] (mkh X s dh dl t M) Q := by
  simp only [↓x_al_5, ↓x_c, ↓x_al_0, ↓x_il_1, ↓x_il_2, ↓x_il_3, ↓x_il_4, ↓c_87, ↓x_i2l, ↓x_last, ↓x_go, ↓x_as_6, ↓x_ir, ↓n_210, ↓s_210_0, ↓s_210_25, ↓bk_v, ↓bk_n, ↓bk_r, ↓be_210_0, ↓be_210_1, ↓pv_i, ↓pv_r, ↓pv_0, ↓pv_l, wz_pk, wz_ti, wz_wz, vI_wz, wz_id, wz_0, List.length_cons, List.length_nil, ↓reduceIte, true_and, and_true, Int.reduceLE, Int.reduceLT, Int.reduceEq, not_true_eq_false, not_false_eq_true, false_or, or_false, true_or, or_true, ite_not, Int.reduceNeg, Int32.reduceToInt, Nat.reduceAdd, Nat.reduceLeDiff, Nat.reduceLT, Nat.reduceEqDiff, Int.reduceAdd, Int.reduceSub, Int.reduceMul, Nat.zero_le, pk_po_ne, pk_po_eq, pk_po_ix, rI, ne_eq]
  refine K87 hC hV.1 hV.2.1 w0 w1 w2 w3 ⟨fun v S' e M' hC' hF' => ?_, fun E S' e M' hC' hF' => ?_⟩
  · have z := (hQ s dh dl).1 v S' (po M' 175 0 (wz v)) e (hC'.pw rfl (by decide)) (hF'.pw (by decide)) (by rw [pk_po_eq, wz_wz])
    simp only [↓x_al_5, ↓x_c, ↓x_al_0, ↓x_il_1, ↓x_il_2, ↓x_il_3, ↓x_il_4, ↓c_87, ↓x_i2l, ↓x_last, ↓x_go, ↓x_as_6, ↓x_ir, ↓n_210, ↓s_210_0, ↓s_210_25, ↓bk_v, ↓bk_n, ↓bk_r, ↓be_210_0, ↓be_210_1, ↓pv_i, ↓pv_r, ↓pv_0, ↓pv_l, wz_pk, wz_ti, wz_wz, vI_wz, wz_id, wz_0, List.length_cons, List.length_nil, ↓reduceIte, true_and, and_true, Int.reduceLE, Int.reduceLT, Int.reduceEq, not_true_eq_false, not_false_eq_true, false_or, or_false, true_or, or_true, ite_not, Int.reduceNeg, Int32.reduceToInt, Nat.reduceAdd, Nat.reduceLeDiff, Nat.reduceLT, Nat.reduceEqDiff, Int.reduceAdd, Int.reduceSub, Int.reduceMul, Nat.zero_le, pk_po_ne, pk_po_eq, pk_po_ix, rI, ne_eq]
    rw [set_out (wz_lo _) (wz_hi _)]
    exact z
  · have z := (hQ s dh dl).2 E S' M' e hC' hF'
    have oc := oc_bars (S := S) (d := d) (g := g) (m := m) (o := o)
    rw [e] at oc
    simp only at oc
    have hE : E = 0 ∨ E = 1 := by omega
    rcases hE with rfl | rfl
    · simp only [↓x_al_5, ↓x_c, ↓x_al_0, ↓x_il_1, ↓x_il_2, ↓x_il_3, ↓x_il_4, ↓c_87, ↓x_i2l, ↓x_last, ↓x_go, ↓x_as_6, ↓x_ir, ↓n_210, ↓s_210_0, ↓s_210_25, ↓bk_v, ↓bk_n, ↓bk_r, ↓be_210_0, ↓be_210_1, ↓pv_i, ↓pv_r, ↓pv_0, ↓pv_l, wz_pk, wz_ti, wz_wz, vI_wz, wz_id, wz_0, List.length_cons, List.length_nil, ↓reduceIte, true_and, and_true, Int.reduceLE, Int.reduceLT, Int.reduceEq, not_true_eq_false, not_false_eq_true, false_or, or_false, true_or, or_true, ite_not, Int.reduceNeg, Int32.reduceToInt, Nat.reduceAdd, Nat.reduceLeDiff, Nat.reduceLT, Nat.reduceEqDiff, Int.reduceAdd, Int.reduceSub, Int.reduceMul, Nat.zero_le, pk_po_ne, pk_po_eq, pk_po_ix, rI, ne_eq]
      exact z
    · simp only [↓x_al_5, ↓x_c, ↓x_al_0, ↓x_il_1, ↓x_il_2, ↓x_il_3, ↓x_il_4, ↓c_87, ↓x_i2l, ↓x_last, ↓x_go, ↓x_as_6, ↓x_ir, ↓n_210, ↓s_210_0, ↓s_210_25, ↓bk_v, ↓bk_n, ↓bk_r, ↓be_210_0, ↓be_210_1, ↓pv_i, ↓pv_r, ↓pv_0, ↓pv_l, wz_pk, wz_ti, wz_wz, vI_wz, wz_id, wz_0, List.length_cons, List.length_nil, ↓reduceIte, true_and, and_true, Int.reduceLE, Int.reduceLT, Int.reduceEq, not_true_eq_false, not_false_eq_true, false_or, or_false, true_or, or_true, ite_not, Int.reduceNeg, Int32.reduceToInt, Nat.reduceAdd, Nat.reduceLeDiff, Nat.reduceLT, Nat.reduceEqDiff, Int.reduceAdd, Int.reduceSub, Int.reduceMul, Nat.zero_le, pk_po_ne, pk_po_eq, pk_po_ix, rI, ne_eq]
      exact z
theorem H211 {d g m o : Int} (hC : RC S M) (hV : INV S) (w0 : wz d = d) (w1 : wz g = g) (w2 : wz m = m) (w3 : wz o = o) (hQ : HQ X t M Q cB (o_late S d g m o)) : CL 211 [.ref 0, vI d, vI g, vI m, vI o, .ref 175] (mkh X s dh dl t M) Q := by
  simp only [↓x_al_5, ↓x_c, ↓x_al_0, ↓x_il_1, ↓x_il_2, ↓x_il_3, ↓x_il_4, ↓c_88, ↓x_i2l, ↓x_last, ↓x_go, ↓x_as_6, ↓x_ir, ↓n_211, ↓s_211_0, ↓s_211_25, ↓bk_v, ↓bk_n, ↓bk_r, ↓be_211_0, ↓be_211_1, ↓pv_i, ↓pv_r, ↓pv_0, ↓pv_l, wz_pk, wz_ti, wz_wz, vI_wz, wz_id, wz_0, List.length_cons, List.length_nil, ↓reduceIte, true_and, and_true, Int.reduceLE, Int.reduceLT, Int.reduceEq, not_true_eq_false, not_false_eq_true, false_or, or_false, true_or, or_true, ite_not, Int.reduceNeg, Int32.reduceToInt, Nat.reduceAdd, Nat.reduceLeDiff, Nat.reduceLT, Nat.reduceEqDiff, Int.reduceAdd, Int.reduceSub, Int.reduceMul, Nat.zero_le, pk_po_ne, pk_po_eq, pk_po_ix, rI, ne_eq]
  refine K88 hC hV.1 hV.2.1 w0 w1 w2 w3 ⟨fun v S' e M' hC' hF' => ?_, fun E S' e M' hC' hF' => ?_⟩
  · have z := (hQ s dh dl).1 v S' (po M' 175 0 (wz v)) e (hC'.pw rfl (by decide)) (hF'.pw (by decide)) (by rw [pk_po_eq, wz_wz])
    simp only [↓x_al_5, ↓x_c, ↓x_al_0, ↓x_il_1, ↓x_il_2, ↓x_il_3, ↓x_il_4, ↓c_88, ↓x_i2l, ↓x_last, ↓x_go, ↓x_as_6, ↓x_ir, ↓n_211, ↓s_211_0, ↓s_211_25, ↓bk_v, ↓bk_n, ↓bk_r, ↓be_211_0, ↓be_211_1, ↓pv_i, ↓pv_r, ↓pv_0, ↓pv_l, wz_pk, wz_ti, wz_wz, vI_wz, wz_id, wz_0, List.length_cons, List.length_nil, ↓reduceIte, true_and, and_true, Int.reduceLE, Int.reduceLT, Int.reduceEq, not_true_eq_false, not_false_eq_true, false_or, or_false, true_or, or_true, ite_not, Int.reduceNeg, Int32.reduceToInt, Nat.reduceAdd, Nat.reduceLeDiff, Nat.reduceLT, Nat.reduceEqDiff, Int.reduceAdd, Int.reduceSub, Int.reduceMul, Nat.zero_le, pk_po_ne, pk_po_eq, pk_po_ix, rI, ne_eq]
    rw [set_out (wz_lo _) (wz_hi _)]
    exact z
  · have z := (hQ s dh dl).2 E S' M' e hC' hF'
    have oc := oc_late (S := S) (d := d) (g := g) (m := m) (o := o)
    rw [e] at oc
    simp only at oc
    have hE : E = 0 ∨ E = 1 := by omega
    rcases hE with rfl | rfl
    · simp only [↓x_al_5, ↓x_c, ↓x_al_0, ↓x_il_1, ↓x_il_2, ↓x_il_3, ↓x_il_4, ↓c_88, ↓x_i2l, ↓x_last, ↓x_go, ↓x_as_6, ↓x_ir, ↓n_211, ↓s_211_0, ↓s_211_25, ↓bk_v, ↓bk_n, ↓bk_r, ↓be_211_0, ↓be_211_1, ↓pv_i, ↓pv_r, ↓pv_0, ↓pv_l, wz_pk, wz_ti, wz_wz, vI_wz, wz_id, wz_0, List.length_cons, List.length_nil, ↓reduceIte, true_and, and_true, Int.reduceLE, Int.reduceLT, Int.reduceEq, not_true_eq_false, not_false_eq_true, false_or, or_false, true_or, or_true, ite_not, Int.reduceNeg, Int32.reduceToInt, Nat.reduceAdd, Nat.reduceLeDiff, Nat.reduceLT, Nat.reduceEqDiff, Int.reduceAdd, Int.reduceSub, Int.reduceMul, Nat.zero_le, pk_po_ne, pk_po_eq, pk_po_ix, rI, ne_eq]
      exact z
    · simp only [↓x_al_5, ↓x_c, ↓x_al_0, ↓x_il_1, ↓x_il_2, ↓x_il_3, ↓x_il_4, ↓c_88, ↓x_i2l, ↓x_last, ↓x_go, ↓x_as_6, ↓x_ir, ↓n_211, ↓s_211_0, ↓s_211_25, ↓bk_v, ↓bk_n, ↓bk_r, ↓be_211_0, ↓be_211_1, ↓pv_i, ↓pv_r, ↓pv_0, ↓pv_l, wz_pk, wz_ti, wz_wz, vI_wz, wz_id, wz_0, List.length_cons, List.length_nil, ↓reduceIte, true_and, and_true, Int.reduceLE, Int.reduceLT, Int.reduceEq, not_true_eq_false, not_false_eq_true, false_or, or_false, true_or, or_true, ite_not, Int.reduceNeg, Int32.reduceToInt, Nat.reduceAdd, Nat.reduceLeDiff, Nat.reduceLT, Nat.reduceEqDiff, Int.reduceAdd, Int.reduceSub, Int.reduceMul, Nat.zero_le, pk_po_ne, pk_po_eq, pk_po_ix, rI, ne_eq]
      exact z
theorem H212 {r d g m o : Int} (hC : RC S M) (hV : INV S) (w0 : wz r = r) (w1 : wz d = d) (w2 : wz g = g) (w3 : wz m = m) (w4 : wz o = o) (hQ : HQ X t M Q cB (o_isSo S r d g m o)) : CL 212 [.ref 0, vI r, vI d, vI g, vI m, vI o, .ref 175] (mkh X s dh dl t M) Q := by
  simp only [↓x_al_6, ↓x_c, ↓x_al_0, ↓x_il_1, ↓x_il_2, ↓x_il_3, ↓x_il_4, ↓x_il_5, ↓c_89, ↓x_eq0, ↓x_lc, ↓x_go, ↓x_last, ↓x_as_7, ↓x_ir, ↓n_212, ↓s_212_0, ↓s_212_21, ↓s_212_22, ↓s_212_34, ↓bk_v, ↓bk_n, ↓bk_r, ↓be_212_0, ↓be_212_1, ↓pv_i, ↓pv_r, ↓pv_0, ↓pv_l, wz_pk, wz_ti, wz_wz, vI_wz, wz_id, wz_0, List.length_cons, List.length_nil, ↓reduceIte, true_and, and_true, Int.reduceLE, Int.reduceLT, Int.reduceEq, not_true_eq_false, not_false_eq_true, false_or, or_false, true_or, or_true, ite_not, Int.reduceNeg, Int32.reduceToInt, Nat.reduceAdd, Nat.reduceLeDiff, Nat.reduceLT, Nat.reduceEqDiff, Int.reduceAdd, Int.reduceSub, Int.reduceMul, Nat.zero_le, pk_po_ne, pk_po_eq, pk_po_ix, rI, ne_eq]
  refine K89 hC hV.1 hV.2.1 w0 w1 w2 w3 w4 ⟨fun v S' e M' hC' hF' => ?_, fun E S' e M' hC' hF' => ?_⟩
  · have z := (hQ s dh dl).1 v S' (po M' 175 0 (wz v)) e (hC'.pw rfl (by decide)) (hF'.pw (by decide)) (by rw [pk_po_eq, wz_wz])
    have hv : v = 0 ∨ v = 1 := by
      unfold o_isSo tkR at e
      split at e
      · split at e
        · split at e
          · simp only [Prod.mk.injEq] at e
            rw [← e.2.1]
            unfold bi
            split <;> simp
          · simp at e
        · simp at e
      · simp at e
    rcases hv with rfl | rfl
    · simp only [↓x_al_6, ↓x_c, ↓x_al_0, ↓x_il_1, ↓x_il_2, ↓x_il_3, ↓x_il_4, ↓x_il_5, ↓c_89, ↓x_eq0, ↓x_lc, ↓x_go, ↓x_last, ↓x_as_7, ↓x_ir, ↓n_212, ↓s_212_0, ↓s_212_21, ↓s_212_22, ↓s_212_34, ↓bk_v, ↓bk_n, ↓bk_r, ↓be_212_0, ↓be_212_1, ↓pv_i, ↓pv_r, ↓pv_0, ↓pv_l, wz_pk, wz_ti, wz_wz, vI_wz, wz_id, wz_0, List.length_cons, List.length_nil, ↓reduceIte, true_and, and_true, Int.reduceLE, Int.reduceLT, Int.reduceEq, not_true_eq_false, not_false_eq_true, false_or, or_false, true_or, or_true, ite_not, Int.reduceNeg, Int32.reduceToInt, Nat.reduceAdd, Nat.reduceLeDiff, Nat.reduceLT, Nat.reduceEqDiff, Int.reduceAdd, Int.reduceSub, Int.reduceMul, Nat.zero_le, pk_po_ne, pk_po_eq, pk_po_ix, rI, ne_eq]
      rw [set_out (by decide) (by decide)]
      exact z
    · simp only [↓x_al_6, ↓x_c, ↓x_al_0, ↓x_il_1, ↓x_il_2, ↓x_il_3, ↓x_il_4, ↓x_il_5, ↓c_89, ↓x_eq0, ↓x_lc, ↓x_go, ↓x_last, ↓x_as_7, ↓x_ir, ↓n_212, ↓s_212_0, ↓s_212_21, ↓s_212_22, ↓s_212_34, ↓bk_v, ↓bk_n, ↓bk_r, ↓be_212_0, ↓be_212_1, ↓pv_i, ↓pv_r, ↓pv_0, ↓pv_l, wz_pk, wz_ti, wz_wz, vI_wz, wz_id, wz_0, List.length_cons, List.length_nil, ↓reduceIte, true_and, and_true, Int.reduceLE, Int.reduceLT, Int.reduceEq, not_true_eq_false, not_false_eq_true, false_or, or_false, true_or, or_true, ite_not, Int.reduceNeg, Int32.reduceToInt, Nat.reduceAdd, Nat.reduceLeDiff, Nat.reduceLT, Nat.reduceEqDiff, Int.reduceAdd, Int.reduceSub, Int.reduceMul, Nat.zero_le, pk_po_ne, pk_po_eq, pk_po_ix, rI, ne_eq]
      rw [set_out (by decide) (by decide)]
      exact z
  · have z := (hQ s dh dl).2 E S' M' e hC' hF'
    have oc := oc_isSo (S := S) (r := r) (d := d) (g := g) (m := m) (o := o)
    rw [e] at oc
    simp only at oc
    have hE : E = 0 ∨ E = 1 := by omega
    rcases hE with rfl | rfl
    · simp only [↓x_al_6, ↓x_c, ↓x_al_0, ↓x_il_1, ↓x_il_2, ↓x_il_3, ↓x_il_4, ↓x_il_5, ↓c_89, ↓x_eq0, ↓x_lc, ↓x_go, ↓x_last, ↓x_as_7, ↓x_ir, ↓n_212, ↓s_212_0, ↓s_212_21, ↓s_212_22, ↓s_212_34, ↓bk_v, ↓bk_n, ↓bk_r, ↓be_212_0, ↓be_212_1, ↓pv_i, ↓pv_r, ↓pv_0, ↓pv_l, wz_pk, wz_ti, wz_wz, vI_wz, wz_id, wz_0, List.length_cons, List.length_nil, ↓reduceIte, true_and, and_true, Int.reduceLE, Int.reduceLT, Int.reduceEq, not_true_eq_false, not_false_eq_true, false_or, or_false, true_or, or_true, ite_not, Int.reduceNeg, Int32.reduceToInt, Nat.reduceAdd, Nat.reduceLeDiff, Nat.reduceLT, Nat.reduceEqDiff, Int.reduceAdd, Int.reduceSub, Int.reduceMul, Nat.zero_le, pk_po_ne, pk_po_eq, pk_po_ix, rI, ne_eq]
      exact z
    · simp only [↓x_al_6, ↓x_c, ↓x_al_0, ↓x_il_1, ↓x_il_2, ↓x_il_3, ↓x_il_4, ↓x_il_5, ↓c_89, ↓x_eq0, ↓x_lc, ↓x_go, ↓x_last, ↓x_as_7, ↓x_ir, ↓n_212, ↓s_212_0, ↓s_212_21, ↓s_212_22, ↓s_212_34, ↓bk_v, ↓bk_n, ↓bk_r, ↓be_212_0, ↓be_212_1, ↓pv_i, ↓pv_r, ↓pv_0, ↓pv_l, wz_pk, wz_ti, wz_wz, vI_wz, wz_id, wz_0, List.length_cons, List.length_nil, ↓reduceIte, true_and, and_true, Int.reduceLE, Int.reduceLT, Int.reduceEq, not_true_eq_false, not_false_eq_true, false_or, or_false, true_or, or_true, ite_not, Int.reduceNeg, Int32.reduceToInt, Nat.reduceAdd, Nat.reduceLeDiff, Nat.reduceLT, Nat.reduceEqDiff, Int.reduceAdd, Int.reduceSub, Int.reduceMul, Nat.zero_le, pk_po_ne, pk_po_eq, pk_po_ix, rI, ne_eq]
      exact z
theorem H213 {d g m o : Int} (hC : RC S M) (hV : INV S) (w0 : wz d = d) (w1 : wz g = g) (w2 : wz m = m) (w3 : wz o = o) (hQ : HQ X t M Q cB (o_take S d g m o)) : CL 213 [.ref 0, vI d, vI g, vI m, vI o, .ref 175] (mkh X s dh dl t M) Q := by
  simp only [↓x_al_5, ↓x_c, ↓x_al_0, ↓x_il_1, ↓x_il_2, ↓x_il_3, ↓x_il_4, ↓c_90, ↓x_i2l, ↓x_last, ↓x_go, ↓x_as_6, ↓x_ir, ↓n_213, ↓s_213_0, ↓s_213_29, ↓bk_v, ↓bk_n, ↓bk_r, ↓be_213_0, ↓be_213_1, ↓be_213_2, ↓pv_i, ↓pv_r, ↓pv_0, ↓pv_l, wz_pk, wz_ti, wz_wz, vI_wz, wz_id, wz_0, List.length_cons, List.length_nil, ↓reduceIte, true_and, and_true, Int.reduceLE, Int.reduceLT, Int.reduceEq, not_true_eq_false, not_false_eq_true, false_or, or_false, true_or, or_true, ite_not, Int.reduceNeg, Int32.reduceToInt, Nat.reduceAdd, Nat.reduceLeDiff, Nat.reduceLT, Nat.reduceEqDiff, Int.reduceAdd, Int.reduceSub, Int.reduceMul, Nat.zero_le, pk_po_ne, pk_po_eq, pk_po_ix, rI, ne_eq]
  refine K90 hC hV.1 hV.2.1 hV.2.2.1 w0 w1 w2 w3 ⟨fun v S' e M' hC' hF' => ?_, fun E S' e M' hC' hF' => ?_⟩
  · have z := (hQ s dh dl).1 v S' (po M' 175 0 (wz v)) e (hC'.pw rfl (by decide)) (hF'.pw (by decide)) (by rw [pk_po_eq, wz_wz])
    simp only [↓x_al_5, ↓x_c, ↓x_al_0, ↓x_il_1, ↓x_il_2, ↓x_il_3, ↓x_il_4, ↓c_90, ↓x_i2l, ↓x_last, ↓x_go, ↓x_as_6, ↓x_ir, ↓n_213, ↓s_213_0, ↓s_213_29, ↓bk_v, ↓bk_n, ↓bk_r, ↓be_213_0, ↓be_213_1, ↓be_213_2, ↓pv_i, ↓pv_r, ↓pv_0, ↓pv_l, wz_pk, wz_ti, wz_wz, vI_wz, wz_id, wz_0, List.length_cons, List.length_nil, ↓reduceIte, true_and, and_true, Int.reduceLE, Int.reduceLT, Int.reduceEq, not_true_eq_false, not_false_eq_true, false_or, or_false, true_or, or_true, ite_not, Int.reduceNeg, Int32.reduceToInt, Nat.reduceAdd, Nat.reduceLeDiff, Nat.reduceLT, Nat.reduceEqDiff, Int.reduceAdd, Int.reduceSub, Int.reduceMul, Nat.zero_le, pk_po_ne, pk_po_eq, pk_po_ix, rI, ne_eq]
    rw [set_out (wz_lo _) (wz_hi _)]
    exact z
  · have z := (hQ s dh dl).2 E S' M' e hC' hF'
    have oc := oc_take (S := S) (d := d) (g := g) (m := m) (o := o)
    rw [e] at oc
    simp only at oc
    have hE : E = 0 ∨ E = 1 ∨ E = 2 := by omega
    rcases hE with rfl | rfl | rfl
    · simp only [↓x_al_5, ↓x_c, ↓x_al_0, ↓x_il_1, ↓x_il_2, ↓x_il_3, ↓x_il_4, ↓c_90, ↓x_i2l, ↓x_last, ↓x_go, ↓x_as_6, ↓x_ir, ↓n_213, ↓s_213_0, ↓s_213_29, ↓bk_v, ↓bk_n, ↓bk_r, ↓be_213_0, ↓be_213_1, ↓be_213_2, ↓pv_i, ↓pv_r, ↓pv_0, ↓pv_l, wz_pk, wz_ti, wz_wz, vI_wz, wz_id, wz_0, List.length_cons, List.length_nil, ↓reduceIte, true_and, and_true, Int.reduceLE, Int.reduceLT, Int.reduceEq, not_true_eq_false, not_false_eq_true, false_or, or_false, true_or, or_true, ite_not, Int.reduceNeg, Int32.reduceToInt, Nat.reduceAdd, Nat.reduceLeDiff, Nat.reduceLT, Nat.reduceEqDiff, Int.reduceAdd, Int.reduceSub, Int.reduceMul, Nat.zero_le, pk_po_ne, pk_po_eq, pk_po_ix, rI, ne_eq]
      exact z
    · simp only [↓x_al_5, ↓x_c, ↓x_al_0, ↓x_il_1, ↓x_il_2, ↓x_il_3, ↓x_il_4, ↓c_90, ↓x_i2l, ↓x_last, ↓x_go, ↓x_as_6, ↓x_ir, ↓n_213, ↓s_213_0, ↓s_213_29, ↓bk_v, ↓bk_n, ↓bk_r, ↓be_213_0, ↓be_213_1, ↓be_213_2, ↓pv_i, ↓pv_r, ↓pv_0, ↓pv_l, wz_pk, wz_ti, wz_wz, vI_wz, wz_id, wz_0, List.length_cons, List.length_nil, ↓reduceIte, true_and, and_true, Int.reduceLE, Int.reduceLT, Int.reduceEq, not_true_eq_false, not_false_eq_true, false_or, or_false, true_or, or_true, ite_not, Int.reduceNeg, Int32.reduceToInt, Nat.reduceAdd, Nat.reduceLeDiff, Nat.reduceLT, Nat.reduceEqDiff, Int.reduceAdd, Int.reduceSub, Int.reduceMul, Nat.zero_le, pk_po_ne, pk_po_eq, pk_po_ix, rI, ne_eq]
      exact z
    · simp only [↓x_al_5, ↓x_c, ↓x_al_0, ↓x_il_1, ↓x_il_2, ↓x_il_3, ↓x_il_4, ↓c_90, ↓x_i2l, ↓x_last, ↓x_go, ↓x_as_6, ↓x_ir, ↓n_213, ↓s_213_0, ↓s_213_29, ↓bk_v, ↓bk_n, ↓bk_r, ↓be_213_0, ↓be_213_1, ↓be_213_2, ↓pv_i, ↓pv_r, ↓pv_0, ↓pv_l, wz_pk, wz_ti, wz_wz, vI_wz, wz_id, wz_0, List.length_cons, List.length_nil, ↓reduceIte, true_and, and_true, Int.reduceLE, Int.reduceLT, Int.reduceEq, not_true_eq_false, not_false_eq_true, false_or, or_false, true_or, or_true, ite_not, Int.reduceNeg, Int32.reduceToInt, Nat.reduceAdd, Nat.reduceLeDiff, Nat.reduceLT, Nat.reduceEqDiff, Int.reduceAdd, Int.reduceSub, Int.reduceMul, Nat.zero_le, pk_po_ne, pk_po_eq, pk_po_ix, rI, ne_eq]
      exact z
theorem H214 {i w : Int} (hC : RC S M) (hV : INV S) (w0 : wz i = i) (w1 : wz w = w) (hQ : HQ X t M Q cA (o_act S i w)) : CL 214 [.ref 0, vI i, vI w, .ref 175] (mkh X s dh dl t M) Q := by
  simp only [↓x_al_3, ↓x_c, ↓x_al_0, ↓x_il_1, ↓x_il_2, ↓c_91, ↓x_i2l, ↓x_last, ↓x_go, ↓x_as_4, ↓x_ir, ↓n_214, ↓s_214_0, ↓s_214_17, ↓bk_v, ↓bk_n, ↓bk_r, ↓be_214_1, ↓pv_i, ↓pv_r, ↓pv_0, ↓pv_l, wz_pk, wz_ti, wz_wz, vI_wz, wz_id, wz_0, List.length_cons, List.length_nil, ↓reduceIte, true_and, and_true, Int.reduceLE, Int.reduceLT, Int.reduceEq, not_true_eq_false, not_false_eq_true, false_or, or_false, true_or, or_true, ite_not, Int.reduceNeg, Int32.reduceToInt, Nat.reduceAdd, Nat.reduceLeDiff, Nat.reduceLT, Nat.reduceEqDiff, Int.reduceAdd, Int.reduceSub, Int.reduceMul, Nat.zero_le, pk_po_ne, pk_po_eq, pk_po_ix, rI, ne_eq]
  refine K91 hC hV.2.2.1 w0 w1 ⟨fun v S' e M' hC' hF' => ?_, fun E S' e M' hC' hF' => ?_⟩
  · have z := (hQ s dh dl).1 v S' (po M' 175 0 (wz v)) e (hC'.pw rfl (by decide)) (hF'.pw (by decide)) (by rw [pk_po_eq, wz_wz])
    simp only [↓x_al_3, ↓x_c, ↓x_al_0, ↓x_il_1, ↓x_il_2, ↓c_91, ↓x_i2l, ↓x_last, ↓x_go, ↓x_as_4, ↓x_ir, ↓n_214, ↓s_214_0, ↓s_214_17, ↓bk_v, ↓bk_n, ↓bk_r, ↓be_214_1, ↓pv_i, ↓pv_r, ↓pv_0, ↓pv_l, wz_pk, wz_ti, wz_wz, vI_wz, wz_id, wz_0, List.length_cons, List.length_nil, ↓reduceIte, true_and, and_true, Int.reduceLE, Int.reduceLT, Int.reduceEq, not_true_eq_false, not_false_eq_true, false_or, or_false, true_or, or_true, ite_not, Int.reduceNeg, Int32.reduceToInt, Nat.reduceAdd, Nat.reduceLeDiff, Nat.reduceLT, Nat.reduceEqDiff, Int.reduceAdd, Int.reduceSub, Int.reduceMul, Nat.zero_le, pk_po_ne, pk_po_eq, pk_po_ix, rI, ne_eq]
    rw [set_out (wz_lo _) (wz_hi _)]
    exact z
  · have z := (hQ s dh dl).2 E S' M' e hC' hF'
    have oc := oc_act (S := S) (i := i) (w := w)
    rw [e] at oc
    simp only at oc
    have hE : E = 1 := by omega
    subst hE
    simp only [↓x_al_3, ↓x_c, ↓x_al_0, ↓x_il_1, ↓x_il_2, ↓c_91, ↓x_i2l, ↓x_last, ↓x_go, ↓x_as_4, ↓x_ir, ↓n_214, ↓s_214_0, ↓s_214_17, ↓bk_v, ↓bk_n, ↓bk_r, ↓be_214_1, ↓pv_i, ↓pv_r, ↓pv_0, ↓pv_l, wz_pk, wz_ti, wz_wz, vI_wz, wz_id, wz_0, List.length_cons, List.length_nil, ↓reduceIte, true_and, and_true, Int.reduceLE, Int.reduceLT, Int.reduceEq, not_true_eq_false, not_false_eq_true, false_or, or_false, true_or, or_true, ite_not, Int.reduceNeg, Int32.reduceToInt, Nat.reduceAdd, Nat.reduceLeDiff, Nat.reduceLT, Nat.reduceEqDiff, Int.reduceAdd, Int.reduceSub, Int.reduceMul, Nat.zero_le, pk_po_ne, pk_po_eq, pk_po_ix, rI, ne_eq]
    exact z
theorem H215 {p k : Int} (hC : RC S M) (hV : INV S) (w0 : wz p = p) (w1 : wz k = k) (hQ : HQ X t M Q cB (o_stage S p k)) : CL 215 [.ref 0, vI p, vI k, .ref 175] (mkh X s dh dl t M) Q := by
  simp only [↓x_al_3, ↓x_c, ↓x_al_0, ↓x_il_1, ↓x_il_2, ↓c_93, ↓x_i2l, ↓x_last, ↓x_go, ↓x_as_4, ↓x_ir, ↓n_215, ↓s_215_0, ↓s_215_21, ↓bk_v, ↓bk_n, ↓bk_r, ↓be_215_0, ↓be_215_1, ↓pv_i, ↓pv_r, ↓pv_0, ↓pv_l, wz_pk, wz_ti, wz_wz, vI_wz, wz_id, wz_0, List.length_cons, List.length_nil, ↓reduceIte, true_and, and_true, Int.reduceLE, Int.reduceLT, Int.reduceEq, not_true_eq_false, not_false_eq_true, false_or, or_false, true_or, or_true, ite_not, Int.reduceNeg, Int32.reduceToInt, Nat.reduceAdd, Nat.reduceLeDiff, Nat.reduceLT, Nat.reduceEqDiff, Int.reduceAdd, Int.reduceSub, Int.reduceMul, Nat.zero_le, pk_po_ne, pk_po_eq, pk_po_ix, rI, ne_eq]
  refine K93 hC hV.1 hV.2.2.1 w0 w1 ⟨fun v S' e M' hC' hF' => ?_, fun E S' e M' hC' hF' => ?_⟩
  · have z := (hQ s dh dl).1 v S' (po M' 175 0 (wz v)) e (hC'.pw rfl (by decide)) (hF'.pw (by decide)) (by rw [pk_po_eq, wz_wz])
    simp only [↓x_al_3, ↓x_c, ↓x_al_0, ↓x_il_1, ↓x_il_2, ↓c_93, ↓x_i2l, ↓x_last, ↓x_go, ↓x_as_4, ↓x_ir, ↓n_215, ↓s_215_0, ↓s_215_21, ↓bk_v, ↓bk_n, ↓bk_r, ↓be_215_0, ↓be_215_1, ↓pv_i, ↓pv_r, ↓pv_0, ↓pv_l, wz_pk, wz_ti, wz_wz, vI_wz, wz_id, wz_0, List.length_cons, List.length_nil, ↓reduceIte, true_and, and_true, Int.reduceLE, Int.reduceLT, Int.reduceEq, not_true_eq_false, not_false_eq_true, false_or, or_false, true_or, or_true, ite_not, Int.reduceNeg, Int32.reduceToInt, Nat.reduceAdd, Nat.reduceLeDiff, Nat.reduceLT, Nat.reduceEqDiff, Int.reduceAdd, Int.reduceSub, Int.reduceMul, Nat.zero_le, pk_po_ne, pk_po_eq, pk_po_ix, rI, ne_eq]
    rw [set_out (wz_lo _) (wz_hi _)]
    exact z
  · have z := (hQ s dh dl).2 E S' M' e hC' hF'
    have oc := oc_stage (S := S) (p := p) (k := k)
    rw [e] at oc
    simp only at oc
    have hE : E = 0 ∨ E = 1 := by omega
    rcases hE with rfl | rfl
    · simp only [↓x_al_3, ↓x_c, ↓x_al_0, ↓x_il_1, ↓x_il_2, ↓c_93, ↓x_i2l, ↓x_last, ↓x_go, ↓x_as_4, ↓x_ir, ↓n_215, ↓s_215_0, ↓s_215_21, ↓bk_v, ↓bk_n, ↓bk_r, ↓be_215_0, ↓be_215_1, ↓pv_i, ↓pv_r, ↓pv_0, ↓pv_l, wz_pk, wz_ti, wz_wz, vI_wz, wz_id, wz_0, List.length_cons, List.length_nil, ↓reduceIte, true_and, and_true, Int.reduceLE, Int.reduceLT, Int.reduceEq, not_true_eq_false, not_false_eq_true, false_or, or_false, true_or, or_true, ite_not, Int.reduceNeg, Int32.reduceToInt, Nat.reduceAdd, Nat.reduceLeDiff, Nat.reduceLT, Nat.reduceEqDiff, Int.reduceAdd, Int.reduceSub, Int.reduceMul, Nat.zero_le, pk_po_ne, pk_po_eq, pk_po_ix, rI, ne_eq]
      exact z
    · simp only [↓x_al_3, ↓x_c, ↓x_al_0, ↓x_il_1, ↓x_il_2, ↓c_93, ↓x_i2l, ↓x_last, ↓x_go, ↓x_as_4, ↓x_ir, ↓n_215, ↓s_215_0, ↓s_215_21, ↓bk_v, ↓bk_n, ↓bk_r, ↓be_215_0, ↓be_215_1, ↓pv_i, ↓pv_r, ↓pv_0, ↓pv_l, wz_pk, wz_ti, wz_wz, vI_wz, wz_id, wz_0, List.length_cons, List.length_nil, ↓reduceIte, true_and, and_true, Int.reduceLE, Int.reduceLT, Int.reduceEq, not_true_eq_false, not_false_eq_true, false_or, or_false, true_or, or_true, ite_not, Int.reduceNeg, Int32.reduceToInt, Nat.reduceAdd, Nat.reduceLeDiff, Nat.reduceLT, Nat.reduceEqDiff, Int.reduceAdd, Int.reduceSub, Int.reduceMul, Nat.zero_le, pk_po_ne, pk_po_eq, pk_po_ix, rI, ne_eq]
      exact z
theorem H216 {g x m : Int} (hC : RC S M) (hV : INV S) (w0 : wz g = g) (w1 : wz x = x) (w2 : wz m = m) (hQ : HQ X t M Q cB (o_sell S g x m)) : CL 216 [.ref 0, vI g, vI x, vI m, .ref 175] (mkh X s dh dl t M) Q := by
  simp only [↓x_al_4, ↓x_c, ↓x_al_0, ↓x_il_1, ↓x_il_2, ↓x_il_3, ↓c_94, ↓x_i2l, ↓x_last, ↓x_go, ↓x_as_5, ↓x_ir, ↓n_216, ↓s_216_0, ↓s_216_23, ↓bk_v, ↓bk_n, ↓bk_r, ↓be_216_0, ↓be_216_1, ↓pv_i, ↓pv_r, ↓pv_0, ↓pv_l, wz_pk, wz_ti, wz_wz, vI_wz, wz_id, wz_0, List.length_cons, List.length_nil, ↓reduceIte, true_and, and_true, Int.reduceLE, Int.reduceLT, Int.reduceEq, not_true_eq_false, not_false_eq_true, false_or, or_false, true_or, or_true, ite_not, Int.reduceNeg, Int32.reduceToInt, Nat.reduceAdd, Nat.reduceLeDiff, Nat.reduceLT, Nat.reduceEqDiff, Int.reduceAdd, Int.reduceSub, Int.reduceMul, Nat.zero_le, pk_po_ne, pk_po_eq, pk_po_ix, rI, ne_eq]
  refine K94 hC hV.1 hV.2.2.1 w0 w1 w2 ⟨fun v S' e M' hC' hF' => ?_, fun E S' e M' hC' hF' => ?_⟩
  · have z := (hQ s dh dl).1 v S' (po M' 175 0 (wz v)) e (hC'.pw rfl (by decide)) (hF'.pw (by decide)) (by rw [pk_po_eq, wz_wz])
    simp only [↓x_al_4, ↓x_c, ↓x_al_0, ↓x_il_1, ↓x_il_2, ↓x_il_3, ↓c_94, ↓x_i2l, ↓x_last, ↓x_go, ↓x_as_5, ↓x_ir, ↓n_216, ↓s_216_0, ↓s_216_23, ↓bk_v, ↓bk_n, ↓bk_r, ↓be_216_0, ↓be_216_1, ↓pv_i, ↓pv_r, ↓pv_0, ↓pv_l, wz_pk, wz_ti, wz_wz, vI_wz, wz_id, wz_0, List.length_cons, List.length_nil, ↓reduceIte, true_and, and_true, Int.reduceLE, Int.reduceLT, Int.reduceEq, not_true_eq_false, not_false_eq_true, false_or, or_false, true_or, or_true, ite_not, Int.reduceNeg, Int32.reduceToInt, Nat.reduceAdd, Nat.reduceLeDiff, Nat.reduceLT, Nat.reduceEqDiff, Int.reduceAdd, Int.reduceSub, Int.reduceMul, Nat.zero_le, pk_po_ne, pk_po_eq, pk_po_ix, rI, ne_eq]
    rw [set_out (wz_lo _) (wz_hi _)]
    exact z
  · have z := (hQ s dh dl).2 E S' M' e hC' hF'
    have oc := oc_sell (S := S) (g := g) (x := x) (m := m)
    rw [e] at oc
    simp only at oc
    have hE : E = 0 ∨ E = 1 := by omega
    rcases hE with rfl | rfl
    · simp only [↓x_al_4, ↓x_c, ↓x_al_0, ↓x_il_1, ↓x_il_2, ↓x_il_3, ↓c_94, ↓x_i2l, ↓x_last, ↓x_go, ↓x_as_5, ↓x_ir, ↓n_216, ↓s_216_0, ↓s_216_23, ↓bk_v, ↓bk_n, ↓bk_r, ↓be_216_0, ↓be_216_1, ↓pv_i, ↓pv_r, ↓pv_0, ↓pv_l, wz_pk, wz_ti, wz_wz, vI_wz, wz_id, wz_0, List.length_cons, List.length_nil, ↓reduceIte, true_and, and_true, Int.reduceLE, Int.reduceLT, Int.reduceEq, not_true_eq_false, not_false_eq_true, false_or, or_false, true_or, or_true, ite_not, Int.reduceNeg, Int32.reduceToInt, Nat.reduceAdd, Nat.reduceLeDiff, Nat.reduceLT, Nat.reduceEqDiff, Int.reduceAdd, Int.reduceSub, Int.reduceMul, Nat.zero_le, pk_po_ne, pk_po_eq, pk_po_ix, rI, ne_eq]
      exact z
    · simp only [↓x_al_4, ↓x_c, ↓x_al_0, ↓x_il_1, ↓x_il_2, ↓x_il_3, ↓c_94, ↓x_i2l, ↓x_last, ↓x_go, ↓x_as_5, ↓x_ir, ↓n_216, ↓s_216_0, ↓s_216_23, ↓bk_v, ↓bk_n, ↓bk_r, ↓be_216_0, ↓be_216_1, ↓pv_i, ↓pv_r, ↓pv_0, ↓pv_l, wz_pk, wz_ti, wz_wz, vI_wz, wz_id, wz_0, List.length_cons, List.length_nil, ↓reduceIte, true_and, and_true, Int.reduceLE, Int.reduceLT, Int.reduceEq, not_true_eq_false, not_false_eq_true, false_or, or_false, true_or, or_true, ite_not, Int.reduceNeg, Int32.reduceToInt, Nat.reduceAdd, Nat.reduceLeDiff, Nat.reduceLT, Nat.reduceEqDiff, Int.reduceAdd, Int.reduceSub, Int.reduceMul, Nat.zero_le, pk_po_ne, pk_po_eq, pk_po_ix, rI, ne_eq]
      exact z
theorem H217 {d : Int} (hC : RC S M) (hV : INV S) (w0 : wz d = d) (hQ : HQ X t M Q cA (o_aside S d)) : CL 217 [.ref 0, vI d, .ref 175] (mkh X s dh dl t M) Q := by
  simp only [↓x_al_2, ↓x_c, ↓x_al_0, ↓x_il_1, ↓c_95, ↓x_i2l, ↓x_last, ↓x_go, ↓x_as_3, ↓x_ir, ↓n_217, ↓s_217_0, ↓s_217_15, ↓bk_v, ↓bk_n, ↓bk_r, ↓be_217_0, ↓pv_i, ↓pv_r, ↓pv_0, ↓pv_l, wz_pk, wz_ti, wz_wz, vI_wz, wz_id, wz_0, List.length_cons, List.length_nil, ↓reduceIte, true_and, and_true, Int.reduceLE, Int.reduceLT, Int.reduceEq, not_true_eq_false, not_false_eq_true, false_or, or_false, true_or, or_true, ite_not, Int.reduceNeg, Int32.reduceToInt, Nat.reduceAdd, Nat.reduceLeDiff, Nat.reduceLT, Nat.reduceEqDiff, Int.reduceAdd, Int.reduceSub, Int.reduceMul, Nat.zero_le, pk_po_ne, pk_po_eq, pk_po_ix, rI, ne_eq]
  refine K95 hC hV.1 hV.2.2.1 w0 ⟨fun v S' e M' hC' hF' => ?_, fun E S' e M' hC' hF' => ?_⟩
  · have z := (hQ s dh dl).1 v S' (po M' 175 0 (wz v)) e (hC'.pw rfl (by decide)) (hF'.pw (by decide)) (by rw [pk_po_eq, wz_wz])
    simp only [↓x_al_2, ↓x_c, ↓x_al_0, ↓x_il_1, ↓c_95, ↓x_i2l, ↓x_last, ↓x_go, ↓x_as_3, ↓x_ir, ↓n_217, ↓s_217_0, ↓s_217_15, ↓bk_v, ↓bk_n, ↓bk_r, ↓be_217_0, ↓pv_i, ↓pv_r, ↓pv_0, ↓pv_l, wz_pk, wz_ti, wz_wz, vI_wz, wz_id, wz_0, List.length_cons, List.length_nil, ↓reduceIte, true_and, and_true, Int.reduceLE, Int.reduceLT, Int.reduceEq, not_true_eq_false, not_false_eq_true, false_or, or_false, true_or, or_true, ite_not, Int.reduceNeg, Int32.reduceToInt, Nat.reduceAdd, Nat.reduceLeDiff, Nat.reduceLT, Nat.reduceEqDiff, Int.reduceAdd, Int.reduceSub, Int.reduceMul, Nat.zero_le, pk_po_ne, pk_po_eq, pk_po_ix, rI, ne_eq]
    rw [set_out (wz_lo _) (wz_hi _)]
    exact z
  · have z := (hQ s dh dl).2 E S' M' e hC' hF'
    have oc := oc_aside (S := S) (d := d)
    rw [e] at oc
    simp only at oc
    have hE : E = 0 := by omega
    subst hE
    simp only [↓x_al_2, ↓x_c, ↓x_al_0, ↓x_il_1, ↓c_95, ↓x_i2l, ↓x_last, ↓x_go, ↓x_as_3, ↓x_ir, ↓n_217, ↓s_217_0, ↓s_217_15, ↓bk_v, ↓bk_n, ↓bk_r, ↓be_217_0, ↓pv_i, ↓pv_r, ↓pv_0, ↓pv_l, wz_pk, wz_ti, wz_wz, vI_wz, wz_id, wz_0, List.length_cons, List.length_nil, ↓reduceIte, true_and, and_true, Int.reduceLE, Int.reduceLT, Int.reduceEq, not_true_eq_false, not_false_eq_true, false_or, or_false, true_or, or_true, ite_not, Int.reduceNeg, Int32.reduceToInt, Nat.reduceAdd, Nat.reduceLeDiff, Nat.reduceLT, Nat.reduceEqDiff, Int.reduceAdd, Int.reduceSub, Int.reduceMul, Nat.zero_le, pk_po_ne, pk_po_eq, pk_po_ix, rI, ne_eq]
    exact z
theorem H218 {d m k : Int} (hC : RC S M) (hV : INV S) (w0 : wz d = d) (w1 : wz m = m) (w2 : wz k = k) (hQ : HQ X t M Q cB (o_promise S d m k)) : CL 218 [.ref 0, vI d, vI m, vI k, .ref 175] (mkh X s dh dl t M) Q := by
  simp only [↓x_al_4, ↓x_c, ↓x_al_0, ↓x_il_1, ↓x_il_2, ↓x_il_3, ↓c_96, ↓x_i2l, ↓x_last, ↓x_go, ↓x_as_5, ↓x_ir, ↓n_218, ↓s_218_0, ↓s_218_23, ↓bk_v, ↓bk_n, ↓bk_r, ↓be_218_0, ↓be_218_1, ↓pv_i, ↓pv_r, ↓pv_0, ↓pv_l, wz_pk, wz_ti, wz_wz, vI_wz, wz_id, wz_0, List.length_cons, List.length_nil, ↓reduceIte, true_and, and_true, Int.reduceLE, Int.reduceLT, Int.reduceEq, not_true_eq_false, not_false_eq_true, false_or, or_false, true_or, or_true, ite_not, Int.reduceNeg, Int32.reduceToInt, Nat.reduceAdd, Nat.reduceLeDiff, Nat.reduceLT, Nat.reduceEqDiff, Int.reduceAdd, Int.reduceSub, Int.reduceMul, Nat.zero_le, pk_po_ne, pk_po_eq, pk_po_ix, rI, ne_eq]
  refine K96 hC hV.2.2.1 w0 w1 w2 ⟨fun v S' e M' hC' hF' => ?_, fun E S' e M' hC' hF' => ?_⟩
  · have z := (hQ s dh dl).1 v S' (po M' 175 0 (wz v)) e (hC'.pw rfl (by decide)) (hF'.pw (by decide)) (by rw [pk_po_eq, wz_wz])
    simp only [↓x_al_4, ↓x_c, ↓x_al_0, ↓x_il_1, ↓x_il_2, ↓x_il_3, ↓c_96, ↓x_i2l, ↓x_last, ↓x_go, ↓x_as_5, ↓x_ir, ↓n_218, ↓s_218_0, ↓s_218_23, ↓bk_v, ↓bk_n, ↓bk_r, ↓be_218_0, ↓be_218_1, ↓pv_i, ↓pv_r, ↓pv_0, ↓pv_l, wz_pk, wz_ti, wz_wz, vI_wz, wz_id, wz_0, List.length_cons, List.length_nil, ↓reduceIte, true_and, and_true, Int.reduceLE, Int.reduceLT, Int.reduceEq, not_true_eq_false, not_false_eq_true, false_or, or_false, true_or, or_true, ite_not, Int.reduceNeg, Int32.reduceToInt, Nat.reduceAdd, Nat.reduceLeDiff, Nat.reduceLT, Nat.reduceEqDiff, Int.reduceAdd, Int.reduceSub, Int.reduceMul, Nat.zero_le, pk_po_ne, pk_po_eq, pk_po_ix, rI, ne_eq]
    rw [set_out (wz_lo _) (wz_hi _)]
    exact z
  · have z := (hQ s dh dl).2 E S' M' e hC' hF'
    have oc := oc_promise (S := S) (d := d) (m := m) (k := k)
    rw [e] at oc
    simp only at oc
    have hE : E = 0 ∨ E = 1 := by omega
    rcases hE with rfl | rfl
    · simp only [↓x_al_4, ↓x_c, ↓x_al_0, ↓x_il_1, ↓x_il_2, ↓x_il_3, ↓c_96, ↓x_i2l, ↓x_last, ↓x_go, ↓x_as_5, ↓x_ir, ↓n_218, ↓s_218_0, ↓s_218_23, ↓bk_v, ↓bk_n, ↓bk_r, ↓be_218_0, ↓be_218_1, ↓pv_i, ↓pv_r, ↓pv_0, ↓pv_l, wz_pk, wz_ti, wz_wz, vI_wz, wz_id, wz_0, List.length_cons, List.length_nil, ↓reduceIte, true_and, and_true, Int.reduceLE, Int.reduceLT, Int.reduceEq, not_true_eq_false, not_false_eq_true, false_or, or_false, true_or, or_true, ite_not, Int.reduceNeg, Int32.reduceToInt, Nat.reduceAdd, Nat.reduceLeDiff, Nat.reduceLT, Nat.reduceEqDiff, Int.reduceAdd, Int.reduceSub, Int.reduceMul, Nat.zero_le, pk_po_ne, pk_po_eq, pk_po_ix, rI, ne_eq]
      exact z
    · simp only [↓x_al_4, ↓x_c, ↓x_al_0, ↓x_il_1, ↓x_il_2, ↓x_il_3, ↓c_96, ↓x_i2l, ↓x_last, ↓x_go, ↓x_as_5, ↓x_ir, ↓n_218, ↓s_218_0, ↓s_218_23, ↓bk_v, ↓bk_n, ↓bk_r, ↓be_218_0, ↓be_218_1, ↓pv_i, ↓pv_r, ↓pv_0, ↓pv_l, wz_pk, wz_ti, wz_wz, vI_wz, wz_id, wz_0, List.length_cons, List.length_nil, ↓reduceIte, true_and, and_true, Int.reduceLE, Int.reduceLT, Int.reduceEq, not_true_eq_false, not_false_eq_true, false_or, or_false, true_or, or_true, ite_not, Int.reduceNeg, Int32.reduceToInt, Nat.reduceAdd, Nat.reduceLeDiff, Nat.reduceLT, Nat.reduceEqDiff, Int.reduceAdd, Int.reduceSub, Int.reduceMul, Nat.zero_le, pk_po_ne, pk_po_eq, pk_po_ix, rI, ne_eq]
      exact z
theorem H219 {k w : Int} (hC : RC S M) (hV : INV S) (w0 : wz k = k) (w1 : wz w = w) (hQ : HQ X t M Q cB (o_kept S k w)) : CL 219 [.ref 0, vI k, vI w, .ref 175] (mkh X s dh dl t M) Q := by
  simp only [↓x_al_3, ↓x_c, ↓x_al_0, ↓x_il_1, ↓x_il_2, ↓c_97, ↓x_i2l, ↓x_last, ↓x_go, ↓x_as_4, ↓x_ir, ↓n_219, ↓s_219_0, ↓s_219_21, ↓bk_v, ↓bk_n, ↓bk_r, ↓be_219_0, ↓be_219_1, ↓pv_i, ↓pv_r, ↓pv_0, ↓pv_l, wz_pk, wz_ti, wz_wz, vI_wz, wz_id, wz_0, List.length_cons, List.length_nil, ↓reduceIte, true_and, and_true, Int.reduceLE, Int.reduceLT, Int.reduceEq, not_true_eq_false, not_false_eq_true, false_or, or_false, true_or, or_true, ite_not, Int.reduceNeg, Int32.reduceToInt, Nat.reduceAdd, Nat.reduceLeDiff, Nat.reduceLT, Nat.reduceEqDiff, Int.reduceAdd, Int.reduceSub, Int.reduceMul, Nat.zero_le, pk_po_ne, pk_po_eq, pk_po_ix, rI, ne_eq]
  refine K97 hC hV.1 hV.2.2.1 w0 w1 ⟨fun v S' e M' hC' hF' => ?_, fun E S' e M' hC' hF' => ?_⟩
  · have z := (hQ s dh dl).1 v S' (po M' 175 0 (wz v)) e (hC'.pw rfl (by decide)) (hF'.pw (by decide)) (by rw [pk_po_eq, wz_wz])
    simp only [↓x_al_3, ↓x_c, ↓x_al_0, ↓x_il_1, ↓x_il_2, ↓c_97, ↓x_i2l, ↓x_last, ↓x_go, ↓x_as_4, ↓x_ir, ↓n_219, ↓s_219_0, ↓s_219_21, ↓bk_v, ↓bk_n, ↓bk_r, ↓be_219_0, ↓be_219_1, ↓pv_i, ↓pv_r, ↓pv_0, ↓pv_l, wz_pk, wz_ti, wz_wz, vI_wz, wz_id, wz_0, List.length_cons, List.length_nil, ↓reduceIte, true_and, and_true, Int.reduceLE, Int.reduceLT, Int.reduceEq, not_true_eq_false, not_false_eq_true, false_or, or_false, true_or, or_true, ite_not, Int.reduceNeg, Int32.reduceToInt, Nat.reduceAdd, Nat.reduceLeDiff, Nat.reduceLT, Nat.reduceEqDiff, Int.reduceAdd, Int.reduceSub, Int.reduceMul, Nat.zero_le, pk_po_ne, pk_po_eq, pk_po_ix, rI, ne_eq]
    rw [set_out (wz_lo _) (wz_hi _)]
    exact z
  · have z := (hQ s dh dl).2 E S' M' e hC' hF'
    have oc := oc_kept (S := S) (k := k) (w := w)
    rw [e] at oc
    simp only at oc
    have hE : E = 0 ∨ E = 1 := by omega
    rcases hE with rfl | rfl
    · simp only [↓x_al_3, ↓x_c, ↓x_al_0, ↓x_il_1, ↓x_il_2, ↓c_97, ↓x_i2l, ↓x_last, ↓x_go, ↓x_as_4, ↓x_ir, ↓n_219, ↓s_219_0, ↓s_219_21, ↓bk_v, ↓bk_n, ↓bk_r, ↓be_219_0, ↓be_219_1, ↓pv_i, ↓pv_r, ↓pv_0, ↓pv_l, wz_pk, wz_ti, wz_wz, vI_wz, wz_id, wz_0, List.length_cons, List.length_nil, ↓reduceIte, true_and, and_true, Int.reduceLE, Int.reduceLT, Int.reduceEq, not_true_eq_false, not_false_eq_true, false_or, or_false, true_or, or_true, ite_not, Int.reduceNeg, Int32.reduceToInt, Nat.reduceAdd, Nat.reduceLeDiff, Nat.reduceLT, Nat.reduceEqDiff, Int.reduceAdd, Int.reduceSub, Int.reduceMul, Nat.zero_le, pk_po_ne, pk_po_eq, pk_po_ix, rI, ne_eq]
      exact z
    · simp only [↓x_al_3, ↓x_c, ↓x_al_0, ↓x_il_1, ↓x_il_2, ↓c_97, ↓x_i2l, ↓x_last, ↓x_go, ↓x_as_4, ↓x_ir, ↓n_219, ↓s_219_0, ↓s_219_21, ↓bk_v, ↓bk_n, ↓bk_r, ↓be_219_0, ↓be_219_1, ↓pv_i, ↓pv_r, ↓pv_0, ↓pv_l, wz_pk, wz_ti, wz_wz, vI_wz, wz_id, wz_0, List.length_cons, List.length_nil, ↓reduceIte, true_and, and_true, Int.reduceLE, Int.reduceLT, Int.reduceEq, not_true_eq_false, not_false_eq_true, false_or, or_false, true_or, or_true, ite_not, Int.reduceNeg, Int32.reduceToInt, Nat.reduceAdd, Nat.reduceLeDiff, Nat.reduceLT, Nat.reduceEqDiff, Int.reduceAdd, Int.reduceSub, Int.reduceMul, Nat.zero_le, pk_po_ne, pk_po_eq, pk_po_ix, rI, ne_eq]
      exact z
theorem H220 {p m : Int} (hC : RC S M) (hV : INV S) (w0 : wz p = p) (w1 : wz m = m) (hQ : HQ X t M Q cB (o_spare S p m)) : CL 220 [.ref 0, vI p, vI m, .ref 175] (mkh X s dh dl t M) Q := by
  simp only [↓x_al_3, ↓x_c, ↓x_al_0, ↓x_il_1, ↓x_il_2, ↓c_98, ↓x_i2l, ↓x_last, ↓x_go, ↓x_as_4, ↓x_ir, ↓n_220, ↓s_220_0, ↓s_220_21, ↓bk_v, ↓bk_n, ↓bk_r, ↓be_220_0, ↓be_220_1, ↓pv_i, ↓pv_r, ↓pv_0, ↓pv_l, wz_pk, wz_ti, wz_wz, vI_wz, wz_id, wz_0, List.length_cons, List.length_nil, ↓reduceIte, true_and, and_true, Int.reduceLE, Int.reduceLT, Int.reduceEq, not_true_eq_false, not_false_eq_true, false_or, or_false, true_or, or_true, ite_not, Int.reduceNeg, Int32.reduceToInt, Nat.reduceAdd, Nat.reduceLeDiff, Nat.reduceLT, Nat.reduceEqDiff, Int.reduceAdd, Int.reduceSub, Int.reduceMul, Nat.zero_le, pk_po_ne, pk_po_eq, pk_po_ix, rI, ne_eq]
  refine K98 hC hV.1 hV.2.2.1 w0 w1 ⟨fun v S' e M' hC' hF' => ?_, fun E S' e M' hC' hF' => ?_⟩
  · have z := (hQ s dh dl).1 v S' (po M' 175 0 (wz v)) e (hC'.pw rfl (by decide)) (hF'.pw (by decide)) (by rw [pk_po_eq, wz_wz])
    simp only [↓x_al_3, ↓x_c, ↓x_al_0, ↓x_il_1, ↓x_il_2, ↓c_98, ↓x_i2l, ↓x_last, ↓x_go, ↓x_as_4, ↓x_ir, ↓n_220, ↓s_220_0, ↓s_220_21, ↓bk_v, ↓bk_n, ↓bk_r, ↓be_220_0, ↓be_220_1, ↓pv_i, ↓pv_r, ↓pv_0, ↓pv_l, wz_pk, wz_ti, wz_wz, vI_wz, wz_id, wz_0, List.length_cons, List.length_nil, ↓reduceIte, true_and, and_true, Int.reduceLE, Int.reduceLT, Int.reduceEq, not_true_eq_false, not_false_eq_true, false_or, or_false, true_or, or_true, ite_not, Int.reduceNeg, Int32.reduceToInt, Nat.reduceAdd, Nat.reduceLeDiff, Nat.reduceLT, Nat.reduceEqDiff, Int.reduceAdd, Int.reduceSub, Int.reduceMul, Nat.zero_le, pk_po_ne, pk_po_eq, pk_po_ix, rI, ne_eq]
    rw [set_out (wz_lo _) (wz_hi _)]
    exact z
  · have z := (hQ s dh dl).2 E S' M' e hC' hF'
    have oc := oc_spare (S := S) (p := p) (m := m)
    rw [e] at oc
    simp only at oc
    have hE : E = 0 ∨ E = 1 := by omega
    rcases hE with rfl | rfl
    · simp only [↓x_al_3, ↓x_c, ↓x_al_0, ↓x_il_1, ↓x_il_2, ↓c_98, ↓x_i2l, ↓x_last, ↓x_go, ↓x_as_4, ↓x_ir, ↓n_220, ↓s_220_0, ↓s_220_21, ↓bk_v, ↓bk_n, ↓bk_r, ↓be_220_0, ↓be_220_1, ↓pv_i, ↓pv_r, ↓pv_0, ↓pv_l, wz_pk, wz_ti, wz_wz, vI_wz, wz_id, wz_0, List.length_cons, List.length_nil, ↓reduceIte, true_and, and_true, Int.reduceLE, Int.reduceLT, Int.reduceEq, not_true_eq_false, not_false_eq_true, false_or, or_false, true_or, or_true, ite_not, Int.reduceNeg, Int32.reduceToInt, Nat.reduceAdd, Nat.reduceLeDiff, Nat.reduceLT, Nat.reduceEqDiff, Int.reduceAdd, Int.reduceSub, Int.reduceMul, Nat.zero_le, pk_po_ne, pk_po_eq, pk_po_ix, rI, ne_eq]
      exact z
    · simp only [↓x_al_3, ↓x_c, ↓x_al_0, ↓x_il_1, ↓x_il_2, ↓c_98, ↓x_i2l, ↓x_last, ↓x_go, ↓x_as_4, ↓x_ir, ↓n_220, ↓s_220_0, ↓s_220_21, ↓bk_v, ↓bk_n, ↓bk_r, ↓be_220_0, ↓be_220_1, ↓pv_i, ↓pv_r, ↓pv_0, ↓pv_l, wz_pk, wz_ti, wz_wz, vI_wz, wz_id, wz_0, List.length_cons, List.length_nil, ↓reduceIte, true_and, and_true, Int.reduceLE, Int.reduceLT, Int.reduceEq, not_true_eq_false, not_false_eq_true, false_or, or_false, true_or, or_true, ite_not, Int.reduceNeg, Int32.reduceToInt, Nat.reduceAdd, Nat.reduceLeDiff, Nat.reduceLT, Nat.reduceEqDiff, Int.reduceAdd, Int.reduceSub, Int.reduceMul, Nat.zero_le, pk_po_ne, pk_po_eq, pk_po_ix, rI, ne_eq]
      exact z
theorem H221 {d m w : Int} (hC : RC S M) (hV : INV S) (w0 : wz d = d) (w1 : wz m = m) (w2 : wz w = w) (hQ : HQ X t M Q cB (o_best S d m w)) : CL 221 [.ref 0, vI d, vI m, vI w, .ref 175] (mkh X s dh dl t M) Q := by
  simp only [↓x_al_4, ↓x_c, ↓x_al_0, ↓x_il_1, ↓x_il_2, ↓x_il_3, ↓c_99, ↓x_i2l, ↓x_last, ↓x_go, ↓x_as_5, ↓x_ir, ↓n_221, ↓s_221_0, ↓s_221_23, ↓bk_v, ↓bk_n, ↓bk_r, ↓be_221_0, ↓be_221_1, ↓pv_i, ↓pv_r, ↓pv_0, ↓pv_l, wz_pk, wz_ti, wz_wz, vI_wz, wz_id, wz_0, List.length_cons, List.length_nil, ↓reduceIte, true_and, and_true, Int.reduceLE, Int.reduceLT, Int.reduceEq, not_true_eq_false, not_false_eq_true, false_or, or_false, true_or, or_true, ite_not, Int.reduceNeg, Int32.reduceToInt, Nat.reduceAdd, Nat.reduceLeDiff, Nat.reduceLT, Nat.reduceEqDiff, Int.reduceAdd, Int.reduceSub, Int.reduceMul, Nat.zero_le, pk_po_ne, pk_po_eq, pk_po_ix, rI, ne_eq]
  refine K99 hC hV.1 hV.2.2.1 w0 w1 w2 ⟨fun v S' e M' hC' hF' => ?_, fun E S' e M' hC' hF' => ?_⟩
  · have z := (hQ s dh dl).1 v S' (po M' 175 0 (wz v)) e (hC'.pw rfl (by decide)) (hF'.pw (by decide)) (by rw [pk_po_eq, wz_wz])
    simp only [↓x_al_4, ↓x_c, ↓x_al_0, ↓x_il_1, ↓x_il_2, ↓x_il_3, ↓c_99, ↓x_i2l, ↓x_last, ↓x_go, ↓x_as_5, ↓x_ir, ↓n_221, ↓s_221_0, ↓s_221_23, ↓bk_v, ↓bk_n, ↓bk_r, ↓be_221_0, ↓be_221_1, ↓pv_i, ↓pv_r, ↓pv_0, ↓pv_l, wz_pk, wz_ti, wz_wz, vI_wz, wz_id, wz_0, List.length_cons, List.length_nil, ↓reduceIte, true_and, and_true, Int.reduceLE, Int.reduceLT, Int.reduceEq, not_true_eq_false, not_false_eq_true, false_or, or_false, true_or, or_true, ite_not, Int.reduceNeg, Int32.reduceToInt, Nat.reduceAdd, Nat.reduceLeDiff, Nat.reduceLT, Nat.reduceEqDiff, Int.reduceAdd, Int.reduceSub, Int.reduceMul, Nat.zero_le, pk_po_ne, pk_po_eq, pk_po_ix, rI, ne_eq]
    rw [set_out (wz_lo _) (wz_hi _)]
    exact z
  · have z := (hQ s dh dl).2 E S' M' e hC' hF'
    have oc := oc_best (S := S) (d := d) (m := m) (w := w)
    rw [e] at oc
    simp only at oc
    have hE : E = 0 ∨ E = 1 := by omega
    rcases hE with rfl | rfl
    · simp only [↓x_al_4, ↓x_c, ↓x_al_0, ↓x_il_1, ↓x_il_2, ↓x_il_3, ↓c_99, ↓x_i2l, ↓x_last, ↓x_go, ↓x_as_5, ↓x_ir, ↓n_221, ↓s_221_0, ↓s_221_23, ↓bk_v, ↓bk_n, ↓bk_r, ↓be_221_0, ↓be_221_1, ↓pv_i, ↓pv_r, ↓pv_0, ↓pv_l, wz_pk, wz_ti, wz_wz, vI_wz, wz_id, wz_0, List.length_cons, List.length_nil, ↓reduceIte, true_and, and_true, Int.reduceLE, Int.reduceLT, Int.reduceEq, not_true_eq_false, not_false_eq_true, false_or, or_false, true_or, or_true, ite_not, Int.reduceNeg, Int32.reduceToInt, Nat.reduceAdd, Nat.reduceLeDiff, Nat.reduceLT, Nat.reduceEqDiff, Int.reduceAdd, Int.reduceSub, Int.reduceMul, Nat.zero_le, pk_po_ne, pk_po_eq, pk_po_ix, rI, ne_eq]
      exact z
    · simp only [↓x_al_4, ↓x_c, ↓x_al_0, ↓x_il_1, ↓x_il_2, ↓x_il_3, ↓c_99, ↓x_i2l, ↓x_last, ↓x_go, ↓x_as_5, ↓x_ir, ↓n_221, ↓s_221_0, ↓s_221_23, ↓bk_v, ↓bk_n, ↓bk_r, ↓be_221_0, ↓be_221_1, ↓pv_i, ↓pv_r, ↓pv_0, ↓pv_l, wz_pk, wz_ti, wz_wz, vI_wz, wz_id, wz_0, List.length_cons, List.length_nil, ↓reduceIte, true_and, and_true, Int.reduceLE, Int.reduceLT, Int.reduceEq, not_true_eq_false, not_false_eq_true, false_or, or_false, true_or, or_true, ite_not, Int.reduceNeg, Int32.reduceToInt, Nat.reduceAdd, Nat.reduceLeDiff, Nat.reduceLT, Nat.reduceEqDiff, Int.reduceAdd, Int.reduceSub, Int.reduceMul, Nat.zero_le, pk_po_ne, pk_po_eq, pk_po_ix, rI, ne_eq]
      exact z
theorem H222 {d m o w : Int} (hC : RC S M) (hV : INV S) (w0 : wz d = d) (w1 : wz m = m) (w2 : wz o = o) (w3 : wz w = w) (hQ : HQ X t M Q cB (o_cover S d m o w)) : CL 222 [.ref 0, vI d, vI m, vI o, vI w, .ref 175] (mkh X s dh dl t M) Q := by
  simp only [↓x_al_5, ↓x_c, ↓x_al_0, ↓x_il_1, ↓x_il_2, ↓x_il_3, ↓x_il_4, ↓c_101, ↓x_i2l, ↓x_last, ↓x_go, ↓x_as_6, ↓x_ir, ↓n_222, ↓s_222_0, ↓s_222_25, ↓bk_v, ↓bk_n, ↓bk_r, ↓be_222_0, ↓be_222_1, ↓pv_i, ↓pv_r, ↓pv_0, ↓pv_l, wz_pk, wz_ti, wz_wz, vI_wz, wz_id, wz_0, List.length_cons, List.length_nil, ↓reduceIte, true_and, and_true, Int.reduceLE, Int.reduceLT, Int.reduceEq, not_true_eq_false, not_false_eq_true, false_or, or_false, true_or, or_true, ite_not, Int.reduceNeg, Int32.reduceToInt, Nat.reduceAdd, Nat.reduceLeDiff, Nat.reduceLT, Nat.reduceEqDiff, Int.reduceAdd, Int.reduceSub, Int.reduceMul, Nat.zero_le, pk_po_ne, pk_po_eq, pk_po_ix, rI, ne_eq]
  refine K101 hC hV.1 hV.2.1 hV.2.2.1 w0 w1 w2 w3 ⟨fun v S' e M' hC' hF' => ?_, fun E S' e M' hC' hF' => ?_⟩
  · have z := (hQ s dh dl).1 v S' (po M' 175 0 (wz v)) e (hC'.pw rfl (by decide)) (hF'.pw (by decide)) (by rw [pk_po_eq, wz_wz])
    simp only [↓x_al_5, ↓x_c, ↓x_al_0, ↓x_il_1, ↓x_il_2, ↓x_il_3, ↓x_il_4, ↓c_101, ↓x_i2l, ↓x_last, ↓x_go, ↓x_as_6, ↓x_ir, ↓n_222, ↓s_222_0, ↓s_222_25, ↓bk_v, ↓bk_n, ↓bk_r, ↓be_222_0, ↓be_222_1, ↓pv_i, ↓pv_r, ↓pv_0, ↓pv_l, wz_pk, wz_ti, wz_wz, vI_wz, wz_id, wz_0, List.length_cons, List.length_nil, ↓reduceIte, true_and, and_true, Int.reduceLE, Int.reduceLT, Int.reduceEq, not_true_eq_false, not_false_eq_true, false_or, or_false, true_or, or_true, ite_not, Int.reduceNeg, Int32.reduceToInt, Nat.reduceAdd, Nat.reduceLeDiff, Nat.reduceLT, Nat.reduceEqDiff, Int.reduceAdd, Int.reduceSub, Int.reduceMul, Nat.zero_le, pk_po_ne, pk_po_eq, pk_po_ix, rI, ne_eq]
    rw [set_out (wz_lo _) (wz_hi _)]
    exact z
  · have z := (hQ s dh dl).2 E S' M' e hC' hF'
    have oc := oc_cover (S := S) (d := d) (m := m) (o := o) (w := w)
    rw [e] at oc
    simp only at oc
    have hE : E = 0 ∨ E = 1 := by omega
    rcases hE with rfl | rfl
    · simp only [↓x_al_5, ↓x_c, ↓x_al_0, ↓x_il_1, ↓x_il_2, ↓x_il_3, ↓x_il_4, ↓c_101, ↓x_i2l, ↓x_last, ↓x_go, ↓x_as_6, ↓x_ir, ↓n_222, ↓s_222_0, ↓s_222_25, ↓bk_v, ↓bk_n, ↓bk_r, ↓be_222_0, ↓be_222_1, ↓pv_i, ↓pv_r, ↓pv_0, ↓pv_l, wz_pk, wz_ti, wz_wz, vI_wz, wz_id, wz_0, List.length_cons, List.length_nil, ↓reduceIte, true_and, and_true, Int.reduceLE, Int.reduceLT, Int.reduceEq, not_true_eq_false, not_false_eq_true, false_or, or_false, true_or, or_true, ite_not, Int.reduceNeg, Int32.reduceToInt, Nat.reduceAdd, Nat.reduceLeDiff, Nat.reduceLT, Nat.reduceEqDiff, Int.reduceAdd, Int.reduceSub, Int.reduceMul, Nat.zero_le, pk_po_ne, pk_po_eq, pk_po_ix, rI, ne_eq]
      exact z
    · simp only [↓x_al_5, ↓x_c, ↓x_al_0, ↓x_il_1, ↓x_il_2, ↓x_il_3, ↓x_il_4, ↓c_101, ↓x_i2l, ↓x_last, ↓x_go, ↓x_as_6, ↓x_ir, ↓n_222, ↓s_222_0, ↓s_222_25, ↓bk_v, ↓bk_n, ↓bk_r, ↓be_222_0, ↓be_222_1, ↓pv_i, ↓pv_r, ↓pv_0, ↓pv_l, wz_pk, wz_ti, wz_wz, vI_wz, wz_id, wz_0, List.length_cons, List.length_nil, ↓reduceIte, true_and, and_true, Int.reduceLE, Int.reduceLT, Int.reduceEq, not_true_eq_false, not_false_eq_true, false_or, or_false, true_or, or_true, ite_not, Int.reduceNeg, Int32.reduceToInt, Nat.reduceAdd, Nat.reduceLeDiff, Nat.reduceLT, Nat.reduceEqDiff, Int.reduceAdd, Int.reduceSub, Int.reduceMul, Nat.zero_le, pk_po_ne, pk_po_eq, pk_po_ix, rI, ne_eq]
      exact z
theorem H223 {d g m o : Int} (hC : RC S M) (hV : INV S) (w0 : wz d = d) (w1 : wz g = g) (w2 : wz m = m) (w3 : wz o = o) (hQ : HQ X t M Q cB (o_when S d g m o)) : CL 223 [.ref 0, vI d, vI g, vI m, vI o, .ref 175] (mkh X s dh dl t M) Q := by
  simp only [↓x_al_5, ↓x_c, ↓x_al_0, ↓x_il_1, ↓x_il_2, ↓x_il_3, ↓x_il_4, ↓c_102, ↓x_i2l, ↓x_last, ↓x_go, ↓x_as_6, ↓x_ir, ↓n_223, ↓s_223_0, ↓s_223_25, ↓bk_v, ↓bk_n, ↓bk_r, ↓be_223_0, ↓be_223_1, ↓pv_i, ↓pv_r, ↓pv_0, ↓pv_l, wz_pk, wz_ti, wz_wz, vI_wz, wz_id, wz_0, List.length_cons, List.length_nil, ↓reduceIte, true_and, and_true, Int.reduceLE, Int.reduceLT, Int.reduceEq, not_true_eq_false, not_false_eq_true, false_or, or_false, true_or, or_true, ite_not, Int.reduceNeg, Int32.reduceToInt, Nat.reduceAdd, Nat.reduceLeDiff, Nat.reduceLT, Nat.reduceEqDiff, Int.reduceAdd, Int.reduceSub, Int.reduceMul, Nat.zero_le, pk_po_ne, pk_po_eq, pk_po_ix, rI, ne_eq]
  refine K102 hC hV.1 hV.2.1 w0 w1 w2 w3 ⟨fun v S' e M' hC' hF' => ?_, fun E S' e M' hC' hF' => ?_⟩
  · have z := (hQ s dh dl).1 v S' (po M' 175 0 (wz v)) e (hC'.pw rfl (by decide)) (hF'.pw (by decide)) (by rw [pk_po_eq, wz_wz])
    simp only [↓x_al_5, ↓x_c, ↓x_al_0, ↓x_il_1, ↓x_il_2, ↓x_il_3, ↓x_il_4, ↓c_102, ↓x_i2l, ↓x_last, ↓x_go, ↓x_as_6, ↓x_ir, ↓n_223, ↓s_223_0, ↓s_223_25, ↓bk_v, ↓bk_n, ↓bk_r, ↓be_223_0, ↓be_223_1, ↓pv_i, ↓pv_r, ↓pv_0, ↓pv_l, wz_pk, wz_ti, wz_wz, vI_wz, wz_id, wz_0, List.length_cons, List.length_nil, ↓reduceIte, true_and, and_true, Int.reduceLE, Int.reduceLT, Int.reduceEq, not_true_eq_false, not_false_eq_true, false_or, or_false, true_or, or_true, ite_not, Int.reduceNeg, Int32.reduceToInt, Nat.reduceAdd, Nat.reduceLeDiff, Nat.reduceLT, Nat.reduceEqDiff, Int.reduceAdd, Int.reduceSub, Int.reduceMul, Nat.zero_le, pk_po_ne, pk_po_eq, pk_po_ix, rI, ne_eq]
    rw [set_out (wz_lo _) (wz_hi _)]
    exact z
  · have z := (hQ s dh dl).2 E S' M' e hC' hF'
    have oc := oc_when (S := S) (d := d) (g := g) (m := m) (o := o)
    rw [e] at oc
    simp only at oc
    have hE : E = 0 ∨ E = 1 := by omega
    rcases hE with rfl | rfl
    · simp only [↓x_al_5, ↓x_c, ↓x_al_0, ↓x_il_1, ↓x_il_2, ↓x_il_3, ↓x_il_4, ↓c_102, ↓x_i2l, ↓x_last, ↓x_go, ↓x_as_6, ↓x_ir, ↓n_223, ↓s_223_0, ↓s_223_25, ↓bk_v, ↓bk_n, ↓bk_r, ↓be_223_0, ↓be_223_1, ↓pv_i, ↓pv_r, ↓pv_0, ↓pv_l, wz_pk, wz_ti, wz_wz, vI_wz, wz_id, wz_0, List.length_cons, List.length_nil, ↓reduceIte, true_and, and_true, Int.reduceLE, Int.reduceLT, Int.reduceEq, not_true_eq_false, not_false_eq_true, false_or, or_false, true_or, or_true, ite_not, Int.reduceNeg, Int32.reduceToInt, Nat.reduceAdd, Nat.reduceLeDiff, Nat.reduceLT, Nat.reduceEqDiff, Int.reduceAdd, Int.reduceSub, Int.reduceMul, Nat.zero_le, pk_po_ne, pk_po_eq, pk_po_ix, rI, ne_eq]
      exact z
    · simp only [↓x_al_5, ↓x_c, ↓x_al_0, ↓x_il_1, ↓x_il_2, ↓x_il_3, ↓x_il_4, ↓c_102, ↓x_i2l, ↓x_last, ↓x_go, ↓x_as_6, ↓x_ir, ↓n_223, ↓s_223_0, ↓s_223_25, ↓bk_v, ↓bk_n, ↓bk_r, ↓be_223_0, ↓be_223_1, ↓pv_i, ↓pv_r, ↓pv_0, ↓pv_l, wz_pk, wz_ti, wz_wz, vI_wz, wz_id, wz_0, List.length_cons, List.length_nil, ↓reduceIte, true_and, and_true, Int.reduceLE, Int.reduceLT, Int.reduceEq, not_true_eq_false, not_false_eq_true, false_or, or_false, true_or, or_true, ite_not, Int.reduceNeg, Int32.reduceToInt, Nat.reduceAdd, Nat.reduceLeDiff, Nat.reduceLT, Nat.reduceEqDiff, Int.reduceAdd, Int.reduceSub, Int.reduceMul, Nat.zero_le, pk_po_ne, pk_po_eq, pk_po_ix, rI, ne_eq]
      exact z
theorem H224 {p x w : Int} (hC : RC S M) (hV : INV S) (w0 : wz p = p) (w1 : wz x = x) (w2 : wz w = w) (hQ : HQ X t M Q cB (o_drawn S p x w)) : CL 224 [.ref 0, vI p, vI x, vI w, .ref 175] (mkh X s dh dl t M) Q := by
  simp only [↓x_al_4, ↓x_c, ↓x_al_0, ↓x_il_1, ↓x_il_2, ↓x_il_3, ↓c_103, ↓x_i2l, ↓x_last, ↓x_go, ↓x_as_5, ↓x_ir, ↓n_224, ↓s_224_0, ↓s_224_23, ↓bk_v, ↓bk_n, ↓bk_r, ↓be_224_0, ↓be_224_1, ↓pv_i, ↓pv_r, ↓pv_0, ↓pv_l, wz_pk, wz_ti, wz_wz, vI_wz, wz_id, wz_0, List.length_cons, List.length_nil, ↓reduceIte, true_and, and_true, Int.reduceLE, Int.reduceLT, Int.reduceEq, not_true_eq_false, not_false_eq_true, false_or, or_false, true_or, or_true, ite_not, Int.reduceNeg, Int32.reduceToInt, Nat.reduceAdd, Nat.reduceLeDiff, Nat.reduceLT, Nat.reduceEqDiff, Int.reduceAdd, Int.reduceSub, Int.reduceMul, Nat.zero_le, pk_po_ne, pk_po_eq, pk_po_ix, rI, ne_eq]
  refine K103 hC hV.1 hV.2.2.1 w0 w2 ⟨fun v S' e M' hC' hF' => ?_, fun E S' e M' hC' hF' => ?_⟩
  · have z := (hQ s dh dl).1 v S' (po M' 175 0 (wz v)) e (hC'.pw rfl (by decide)) (hF'.pw (by decide)) (by rw [pk_po_eq, wz_wz])
    simp only [↓x_al_4, ↓x_c, ↓x_al_0, ↓x_il_1, ↓x_il_2, ↓x_il_3, ↓c_103, ↓x_i2l, ↓x_last, ↓x_go, ↓x_as_5, ↓x_ir, ↓n_224, ↓s_224_0, ↓s_224_23, ↓bk_v, ↓bk_n, ↓bk_r, ↓be_224_0, ↓be_224_1, ↓pv_i, ↓pv_r, ↓pv_0, ↓pv_l, wz_pk, wz_ti, wz_wz, vI_wz, wz_id, wz_0, List.length_cons, List.length_nil, ↓reduceIte, true_and, and_true, Int.reduceLE, Int.reduceLT, Int.reduceEq, not_true_eq_false, not_false_eq_true, false_or, or_false, true_or, or_true, ite_not, Int.reduceNeg, Int32.reduceToInt, Nat.reduceAdd, Nat.reduceLeDiff, Nat.reduceLT, Nat.reduceEqDiff, Int.reduceAdd, Int.reduceSub, Int.reduceMul, Nat.zero_le, pk_po_ne, pk_po_eq, pk_po_ix, rI, ne_eq]
    rw [set_out (wz_lo _) (wz_hi _)]
    exact z
  · have z := (hQ s dh dl).2 E S' M' e hC' hF'
    have oc := oc_drawn (S := S) (p := p) (x := x) (w := w)
    rw [e] at oc
    simp only at oc
    have hE : E = 0 ∨ E = 1 := by omega
    rcases hE with rfl | rfl
    · simp only [↓x_al_4, ↓x_c, ↓x_al_0, ↓x_il_1, ↓x_il_2, ↓x_il_3, ↓c_103, ↓x_i2l, ↓x_last, ↓x_go, ↓x_as_5, ↓x_ir, ↓n_224, ↓s_224_0, ↓s_224_23, ↓bk_v, ↓bk_n, ↓bk_r, ↓be_224_0, ↓be_224_1, ↓pv_i, ↓pv_r, ↓pv_0, ↓pv_l, wz_pk, wz_ti, wz_wz, vI_wz, wz_id, wz_0, List.length_cons, List.length_nil, ↓reduceIte, true_and, and_true, Int.reduceLE, Int.reduceLT, Int.reduceEq, not_true_eq_false, not_false_eq_true, false_or, or_false, true_or, or_true, ite_not, Int.reduceNeg, Int32.reduceToInt, Nat.reduceAdd, Nat.reduceLeDiff, Nat.reduceLT, Nat.reduceEqDiff, Int.reduceAdd, Int.reduceSub, Int.reduceMul, Nat.zero_le, pk_po_ne, pk_po_eq, pk_po_ix, rI, ne_eq]
      exact z
    · simp only [↓x_al_4, ↓x_c, ↓x_al_0, ↓x_il_1, ↓x_il_2, ↓x_il_3, ↓c_103, ↓x_i2l, ↓x_last, ↓x_go, ↓x_as_5, ↓x_ir, ↓n_224, ↓s_224_0, ↓s_224_23, ↓bk_v, ↓bk_n, ↓bk_r, ↓be_224_0, ↓be_224_1, ↓pv_i, ↓pv_r, ↓pv_0, ↓pv_l, wz_pk, wz_ti, wz_wz, vI_wz, wz_id, wz_0, List.length_cons, List.length_nil, ↓reduceIte, true_and, and_true, Int.reduceLE, Int.reduceLT, Int.reduceEq, not_true_eq_false, not_false_eq_true, false_or, or_false, true_or, or_true, ite_not, Int.reduceNeg, Int32.reduceToInt, Nat.reduceAdd, Nat.reduceLeDiff, Nat.reduceLT, Nat.reduceEqDiff, Int.reduceAdd, Int.reduceSub, Int.reduceMul, Nat.zero_le, pk_po_ne, pk_po_eq, pk_po_ix, rI, ne_eq]
      exact z
end L89
