/-! A LAW, token by token: what waits is a row W of k codes (0 a bracket, 1 or, 2 and, 3 not) -/
def lawAdd (S : St) (c b v : Int) : St := su (su (su (su S 70 (S 69 1) c) 71 (S 69 1) b) 72 (S 69 1) v) 69 1 (S 69 1 + 1)
def relF (w : Int) (W : Int → Int) : Nat → St → Int → St × Int
  | 0, S, k => (S, k)
  | m + 1, S, k => if 0 < k ∧ w ≤ W (k - 1) then relF w W m (lawAdd S (W (k - 1)) 0 0) (k - 1) else (S, k)
def rel (w : Int) (S : St) (W : Int → Int) (k : Int) : St × Int := relF w W k.toNat S k
def subj (S : St) (q e : Int) : Int :=
  if isW S q e (P_txt 11) = true then 0 else if isW S q e (P_txt 12) = true then 1 else if isW S q e (P_txt 13) = true then 2 else if isW S q e (P_txt 14) = true then 3
  else if isW S q e (P_txt 15) = true then 4 else if isW S q e (P_txt 16) = true then 5 else if isW S q e (P_txt 17) = true then 6 else if isW S q e (P_txt 18) = true then 7
  else if isW S q e (P_txt 19) = true then 8 else if isW S q e (P_txt 20) = true then 9 else -1
/-- fault, place; what is wanted next (0 an atom, 1 a join, 2 nothing); the state; what waits -/
abbrev LR : Type := Int × Int × Int × St × (Int → Int) × Int
def l_num (S : St) (W : Int → Int) (k c b : Int) (r : Int × Int × Int) : LR := if r.1 = 0 then (0, r.2.1, 1, lawAdd S c b r.2.2, W, k) else (r.1, r.2.1, 1, lawAdd S c b (-1), W, k)
def l_atom (S : St) (W : Int → Int) (k n b e : Int) : LR :=
  if b = 0 then l_num S W k 6 0 (rdN S n 0 5 e)
  else if b ≤ 3 then (if sk S n e < n ∧ S 1 (sk S n e) = 60 then l_num S W k 4 b (rdN S n 0 9999 (sk S n e + 1)) else if sk S n e < n ∧ S 1 (sk S n e) = 62 then l_num S W k 5 b (rdN S n 0 9999 (sk S n e + 1)) else (1, sk S n e, 1, S, W, k))
  else (0, e, 1, lawAdd S 6 b 1, W, k)
def l_ahead (S : St) (W : Int → Int) (k n p : Int) : LR :=
  if sk S n p < n ∧ S 1 (sk S n p) = 91 then (0, sk S n p + 1, 0, S, upi W k 0, k + 1)
  else if isW S (sk S n p) (we S n (sk S n p)) (P_txt 10) = true then (0, we S n (sk S n p), 0, S, upi W k 3, k + 1)
  else if subj S (sk S n p) (we S n (sk S n p)) = -1 then (1, sk S n p, 0, S, W, k)
  else l_atom S W k n (subj S (sk S n p) (we S n (sk S n p))) (we S n (sk S n p))
def l_join (S : St) (W : Int → Int) (k n p : Int) : LR :=
  if sk S n p < n ∧ S 1 (sk S n p) = 93 then (if (rel 1 S W k).2 = 0 then (1, sk S n p, 1, (rel 1 S W k).1, W, 0) else (0, sk S n p + 1, 1, (rel 1 S W k).1, W, (rel 1 S W k).2 - 1))
  else if sk S n p < n ∧ S 1 (sk S n p) = 59 then (if (rel 1 S W k).2 = 0 then (0, sk S n p + 1, 2, (rel 1 S W k).1, W, 0) else (1, sk S n p, 1, (rel 1 S W k).1, W, (rel 1 S W k).2))
  else if isW S (sk S n p) (we S n (sk S n p)) (P_txt 21) = true then (0, we S n (sk S n p), 0, (rel 2 S W k).1, upi W (rel 2 S W k).2 2, (rel 2 S W k).2 + 1)
  else if isW S (sk S n p) (we S n (sk S n p)) (P_txt 22) = true then (0, we S n (sk S n p), 0, (rel 1 S W k).1, upi W (rel 1 S W k).2 1, (rel 1 S W k).2 + 1)
  else (1, sk S n p, 1, S, W, k)
def l_test (n : Int) : Nat → Int → Int → St → (Int → Int) → Int → LR
  | 0, _, p, S, W, k => (1, p, 0, S, W, k)
  | m + 1, j, p, S, W, k =>
    let r := if j = 0 then l_ahead S W k n p else l_join S W k n p
    if r.1 = 0 ∧ ¬ r.2.2.1 = 2 then l_test n m r.2.2.1 r.2.1 r.2.2.2.1 r.2.2.2.2.1 r.2.2.2.2.2 else r
def endR (S : St) : St := su (su S 73 (S 69 0) (S 69 1)) 69 0 (S 69 0 + 1)
def l_all (n : Int) : Nat → Int → Int → St → K3
  | 0, _, p, S => (1, p, S)
  | m + 1, c, p, S =>
    if n ≤ sk S n p then (0, sk S n p, S)
    else if isW S (sk S n p) (we S n (sk S n p)) (P_txt 9) = true then (if c = 10 then (3, sk S n p, S) else
      let r := l_test n 301 0 (we S n (sk S n p)) S (fun _ => 0) 0
      if r.1 = 0 then l_all n m (c + 1) r.2.1 (endR r.2.2.2.1) else (r.1, r.2.1, r.2.2.2.1))
    else (1, sk S n p, S)
/-- the law's reader at work -/
def LRd (S : St) (W : Int → Int) (k n p : Int) (M : Mem) : Prop := RC S M ∧ pk M 2 1 = n ∧ pk M 2 2 = p ∧ pk M 76 3 = k ∧ (∀ j, 0 ≤ j → j < k → pk M 77 j = W j)
def FX (S : St) (M M' : Mem) (k x : Int) : Prop := ∃ M0, RC S M0 ∧ FC M M0 ∧ FLD M0 M' k x
def LQ (X : Nat × (Nat → Int32)) (s : Bool × Bool) (dh t : Nat) (M : Mem) (Q : MOut → MHp → Prop) (n : Int) (r : LR) : Prop :=
  (∀ x j S' W' k' M', r = (0, x, j, S', W', k') → LRd S' W' k' n x M' → pk M' 76 4 = (if j = 0 then 1 else 0) → pk M' 76 5 = (if j = 2 then 1 else 0) → FC M M' → Q (rI 1) (mkh X s dh (lB s) t M')) ∧ (∀ i x j S' W' k' M', ¬ i = 0 → r = (i, x, j, S', W', k') → FX S' M M' i x → Q (rI 0) (mkh X s dh (lB s) t M'))
theorem relF_rng {w : Int} {W : Int → Int} : ∀ (m : Nat) (S : St) (k : Int), 0 ≤ k → 0 ≤ (relF w W m S k).2 ∧ (relF w W m S k).2 ≤ k ∧ (relF w W m S k).1 69 1 + (relF w W m S k).2 = S 69 1 + k ∧ (relF w W m S k).1 69 0 = S 69 0 := by
  intro m
  induction m with
  | zero => intro S k h; simp [relF]; omega
  | succ m ih =>
    intro S k h
    simp only [relF]
    split
    · have := ih (lawAdd S (W (k - 1)) 0 0) (k - 1) (by omega)
      have e : lawAdd S (W (k - 1)) 0 0 69 1 = S 69 1 + 1 := by simp [lawAdd, su]
      have e0 : lawAdd S (W (k - 1)) 0 0 69 0 = S 69 0 := by simp [lawAdd, su]
      rw [e, e0] at this
      omega
    · simp; omega
theorem rel_rng {w : Int} {S : St} {W : Int → Int} {k : Int} (h : 0 ≤ k) : 0 ≤ (rel w S W k).2 ∧ (rel w S W k).2 ≤ k ∧ (rel w S W k).1 69 1 + (rel w S W k).2 = S 69 1 + k ∧ (rel w S W k).1 69 0 = S 69 0 := relF_rng _ _ _ h
section C51
variable {Q : MOut → MHp → Prop} {X : Nat × (Nat → Int32)} {s : Bool × Bool} {dh dl t : Nat} {M : Mem} {S : St} {p f n k : Int} {W : Int → Int}
theorem txm_self (h : pk M 2 2 = p) : txm M p (pk M 2 3) = M := by
  funext e j
  unfold txm po pk at *
  by_cases h1 : e = 2 ∧ j = 3
  · rw [if_pos h1, h1.1, h1.2, Int32.ofInt_toInt]
  · rw [if_neg h1]
    by_cases h2 : e = 2 ∧ j = 2
    · rw [if_pos h2, h2.1, h2.2, ← h, Int32.ofInt_toInt]
    · rw [if_neg h2]
theorem C40 : CL 40 [.ref (lB s)] (mkh X s dh dl t M) Q ↔ Q (.inl none) (mkh X s dh dl t (po (po M 69 0 0) 69 1 0)) := by
  simp only [↓x_al_0, ↓x_c, ↓pi_lA_0, ↓pi_lB_0, ↓pi_lA_1, ↓pi_lB_1, ↓x_rt, ↓n_40, ↓s_40_0, ↓pv_i, ↓pv_r, ↓pv_0, ↓pv_l, wz_pk, wz_ti, wz_wz, vI_wz, wz_id, wz_0, List.length_cons, List.length_nil, ↓reduceIte, true_and, and_true, Int.reduceLE, Int.reduceLT, Int.reduceEq, not_true_eq_false, not_false_eq_true, false_or, or_false, true_or, or_true, ite_not, Int.reduceNeg, Int32.reduceToInt, Nat.reduceAdd, Nat.reduceLeDiff, Nat.reduceLT, Nat.reduceEqDiff, Int.reduceAdd, Int.reduceSub, Int.reduceMul, Nat.zero_le, pk_po_ne, pk_po_eq, pk_po_ix, rI, ne_eq]
theorem C41 {c b v : Int} (hC : RC S M) (hn : 0 ≤ S 69 1 ∧ S 69 1 < 300) : CL 41 [.ref (lB s), vI c, vI b, vI v] (mkh X s dh dl t M) Q ↔ Q (.inl none) (mkh X s dh dl t (po (po (po (po M 70 (S 69 1) c) 71 (S 69 1) b) 72 (S 69 1) v) 69 1 (S 69 1 + 1))) := by
  have e1 : ¬ 300 ≤ S 69 1 := by omega
  have e2 : S 69 1 < 300 := hn.2
  have e3 : 0 ≤ S 69 1 := hn.1
  simp (disch := omega) only [↓x_al_0, ↓gi_lA_1, ↓gi_lB_1, ↓x_c, ↓x_ge, ↓gr_lA_2, ↓gr_lB_2, ↓x_il_1, ↓gr_lA_3, ↓gr_lB_3, ↓x_il_2, ↓gr_lA_4, ↓gr_lB_4, ↓x_il_3, ↓x_dup_i, ↓x_dup_r, ↓x_iadd, ↓pi_lA_1, ↓pi_lB_1, ↓x_rt, ↓st_lA_1, ↓st_lA_2, ↓st_lA_3, ↓st_lB_1, ↓st_lB_2, ↓st_lB_3, ↓n_41, ↓s_41_0, ↓s_41_50, ↓pv_i, ↓pv_r, ↓pv_0, ↓pv_l, wz_pk, wz_ti, wz_wz, vI_wz, wz_id, wz_0, List.length_cons, List.length_nil, ↓reduceIte, true_and, and_true, Int.reduceLE, Int.reduceLT, Int.reduceEq, not_true_eq_false, not_false_eq_true, false_or, or_false, true_or, or_true, ite_not, Int.reduceNeg, Int32.reduceToInt, Nat.reduceAdd, Nat.reduceLeDiff, Nat.reduceLT, Nat.reduceEqDiff, Int.reduceAdd, Int.reduceSub, Int.reduceMul, Nat.zero_le, pk_po_ne, pk_po_eq, pk_po_ix, rI, ne_eq, hC.at 69 rfl, hC.wzz 69 rfl, e1, e2, e3, if_false]
theorem RC.add {c b v : Int} (hC : RC S M) (hn : 0 ≤ S 69 1 ∧ S 69 1 < 300) (hc : wz c = c) (hb : wz b = b) (hv : wz v = v) : RC (lawAdd S c b v) (po (po (po (po M 70 (S 69 1) c) 71 (S 69 1) b) 72 (S 69 1) v) 69 1 (S 69 1 + 1)) := (((hC.putz (by decide) hc).putz (by decide) hb).putz (by decide) hv).putz (by decide) (wz_id (by omega) (by omega))
theorem C42 (hC : RC S M) (hn : 0 ≤ S 69 0 ∧ S 69 0 < 10) : CL 42 [.ref (lB s)] (mkh X s dh dl t M) Q ↔ Q (.inl none) (mkh X s dh dl t (po (po M 73 (S 69 0) (S 69 1)) 69 0 (S 69 0 + 1))) := by
  have e1 : ¬ 10 ≤ S 69 0 := by omega
  have e2 : S 69 0 < 10 := hn.2
  have e3 : 0 ≤ S 69 0 := hn.1
  simp (disch := omega) only [↓x_al_0, ↓gi_lA_0, ↓gi_lB_0, ↓x_c, ↓x_ge, ↓gr_lA_5, ↓gr_lB_5, ↓gi_lA_1, ↓gi_lB_1, ↓x_dup_i, ↓x_dup_r, ↓x_iadd, ↓pi_lA_0, ↓pi_lB_0, ↓x_rt, ↓st_lA_4, ↓st_lB_4, ↓n_42, ↓s_42_0, ↓s_42_32, ↓pv_i, ↓pv_r, ↓pv_0, ↓pv_l, wz_pk, wz_ti, wz_wz, vI_wz, wz_id, wz_0, List.length_cons, List.length_nil, ↓reduceIte, true_and, and_true, Int.reduceLE, Int.reduceLT, Int.reduceEq, not_true_eq_false, not_false_eq_true, false_or, or_false, true_or, or_true, ite_not, Int.reduceNeg, Int32.reduceToInt, Nat.reduceAdd, Nat.reduceLeDiff, Nat.reduceLT, Nat.reduceEqDiff, Int.reduceAdd, Int.reduceSub, Int.reduceMul, Nat.zero_le, pk_po_ne, pk_po_eq, pk_po_ix, rI, ne_eq, hC.at 69 rfl, hC.wzz 69 rfl, e1, e2, e3, if_false]
theorem C53 {c : Int} (hL : LRd S W k n p M) (hk : 0 ≤ k ∧ k < 300) (hc : wz c = c) (hQ : ∀ M', LRd S (upi W k c) (k + 1) n p M' → pk M' 76 4 = pk M 76 4 → pk M' 76 5 = pk M 76 5 → FC M M' → M' 2 = M 2 → Q (.inl none) (mkh X s dh dl t M')) : CL 53 [.ref 76, vI c] (mkh X s dh dl t M) Q := by
  obtain ⟨h1, h2, h3, h4, h5⟩ := hL
  have e1 : ¬ 300 ≤ k := by omega
  have e2 : k < 300 := hk.2
  have e3 : 0 ≤ k := hk.1
  simp (disch := omega) only [↓x_al_0, ↓gi_76_3, ↓x_c, ↓x_ge, ↓gr_76_2, ↓x_il_1, ↓x_dup_i, ↓x_dup_r, ↓x_iadd, ↓pi_76_3, ↓x_rt, ↓st_77, ↓n_53, ↓s_53_0, ↓s_53_30, ↓pv_i, ↓pv_r, ↓pv_0, ↓pv_l, wz_pk, wz_ti, wz_wz, vI_wz, wz_id, wz_0, List.length_cons, List.length_nil, ↓reduceIte, true_and, and_true, Int.reduceLE, Int.reduceLT, Int.reduceEq, not_true_eq_false, not_false_eq_true, false_or, or_false, true_or, or_true, ite_not, Int.reduceNeg, Int32.reduceToInt, Nat.reduceAdd, Nat.reduceLeDiff, Nat.reduceLT, Nat.reduceEqDiff, Int.reduceAdd, Int.reduceSub, Int.reduceMul, Nat.zero_le, pk_po_ne, pk_po_eq, pk_po_ix, rI, ne_eq, h4, e1, e2, e3, if_false]
  apply hQ
  · refine ⟨(h1.pw (a := 77) rfl (by decide)).pw (a := 76) rfl (by decide), ?_, ?_, ?_, ?_⟩
    · rw [pk_po_ne (by decide), pk_po_ne (by decide)]; exact h2
    · rw [pk_po_ne (by decide), pk_po_ne (by decide)]; exact h3
    · rw [pk_po_eq]; exact wz_id (by omega) (by omega)
    · intro j a b
      rw [pk_po_ne (by decide), pk_po]
      unfold upi
      by_cases hj : j = k
      · rw [if_pos ⟨rfl, hj⟩, if_pos hj]; exact hc
      · rw [if_neg (fun h => hj h.2), if_neg hj]; exact h5 j a (by omega)
  · rw [pk_po_ix (by decide), pk_po_ne (by decide)]
  · rw [pk_po_ix (by decide), pk_po_ne (by decide)]
  · exact (FC.rfl.pw (by decide)).pw (by decide)
  · funext j
    rw [po_ne (by simp), po_ne (by simp)]
theorem C54 {w : Int} (hw : wz w = w) (hW : ∀ j, 0 ≤ j → j < k → 0 ≤ W j ∧ W j ≤ 3) (hL : LRd S W k n p M) (hk : 0 ≤ k) (hs : 0 ≤ S 69 1 ∧ S 69 1 + k ≤ 300)
    (hQ : ∀ M', LRd (rel w S W k).1 W (rel w S W k).2 n p M' → pk M' 76 4 = pk M 76 4 → pk M' 76 5 = pk M 76 5 → FC M M' → M' 2 = M 2 → Q (.inl none) (mkh X s dh (lB s) t M')) : CL 54 [.ref 76, vI w] (mkh X s dh (lB s) t M) Q := by
  have key : ∀ (m : Nat) (k' : Int) (S' : St) (M1 : Mem), k'.toNat = m → 0 ≤ k' → k' ≤ k → 0 ≤ S' 69 1 → S' 69 1 + k' ≤ 300 → relF w W m S' k' = rel w S W k → LRd S' W k' n p M1 → pk M1 76 4 = pk M 76 4 → pk M1 76 5 = pk M 76 5 → FC M M1 → M1 2 = M 2 → EX 54 (sx 54 0) [.ref 76, vI w] [] (mkh X s dh (lB s) t M1) Q := by
    intro m
    induction m with
    | zero =>
      intro k' S' M1 hm h0 h1 h2 h3 hr hL' a4 a5 hF h22
      have hk0 : k' = 0 := by omega
      subst hk0
      simp only [relF] at hr
      have e := hQ M1 (by rw [← hr]; exact hL') a4 a5 hF h22
      obtain ⟨-, -, -, g4, -⟩ := hL'
      rw [s_54_0]
      simp (disch := omega) only [↓x_al_0, ↓gi_76_3, ↓x_le0, ↓gr_76_2, ↓x_c, ↓x_isub, ↓x_il_1, ↓x_lt, ↓x_dup_i, ↓x_dup_r, ↓pi_76_3, ↓gd_76_1, ↓c_41_lB, ↓x_go, ↓x_rt, ↓ld_77, ↓n_54, ↓s_54_53, ↓bk_v, ↓bk_n, ↓bk_r, ↓pv_i, ↓pv_r, ↓pv_0, ↓pv_l, wz_pk, wz_ti, wz_wz, vI_wz, wz_id, wz_0, List.length_cons, List.length_nil, ↓reduceIte, true_and, and_true, Int.reduceLE, Int.reduceLT, Int.reduceEq, not_true_eq_false, not_false_eq_true, false_or, or_false, true_or, or_true, ite_not, Int.reduceNeg, Int32.reduceToInt, Nat.reduceAdd, Nat.reduceLeDiff, Nat.reduceLT, Nat.reduceEqDiff, Int.reduceAdd, Int.reduceSub, Int.reduceMul, Nat.zero_le, pk_po_ne, pk_po_eq, pk_po_ix, rI, ne_eq, g4, Int.le_refl, if_true]
      exact e
    | succ m ih =>
      intro k' S' M1 hm h0 h1 h2 h3 hr hL' a4 a5 hF h22
      have hLL := hL'
      obtain ⟨g1, g2, g3, g4, g5⟩ := hL'
      have e1 : ¬ k' ≤ 0 := by omega
      have e2 : k' - 1 < 300 := by omega
      have e3 : 0 ≤ k' - 1 := by omega
      have g6 := g5 (k' - 1) e3 (by omega)
      have hWk := hW (k' - 1) e3 (by omega)
      simp only [relF] at hr
      rw [s_54_0]
      by_cases c1 : w ≤ W (k' - 1)
      · rw [if_pos ⟨by omega, c1⟩] at hr
        have c2 : ¬ W (k' - 1) < w := by omega
        have hC2 := g1.pw (a := 76) (i := 3) (x := k' - 1) rfl (by decide)
        have wW : wz (W (k' - 1)) = W (k' - 1) := wz_id (by omega) (by omega)
        have ih2 := ih (k' - 1) (lawAdd S' (W (k' - 1)) 0 0) (po (po (po (po (po M1 76 3 (k' - 1)) 70 (S' 69 1) (W (k' - 1))) 71 (S' 69 1) 0) 72 (S' 69 1) 0) 69 1 (S' 69 1 + 1)) (by omega) e3 (by omega) (by simp [lawAdd, su]; omega) (by simp [lawAdd, su]; omega) hr ⟨hC2.add ⟨h2, by omega⟩ wW rfl rfl, by rw [pk_po_ne (by decide), pk_po_ne (by decide), pk_po_ne (by decide), pk_po_ne (by decide), pk_po_ne (by decide)]; exact g2, by rw [pk_po_ne (by decide), pk_po_ne (by decide), pk_po_ne (by decide), pk_po_ne (by decide), pk_po_ne (by decide)]; exact g3, by rw [pk_po_ne (by decide), pk_po_ne (by decide), pk_po_ne (by decide), pk_po_ne (by decide), pk_po_eq]; exact wz_id (by omega) (by omega), fun j a b => by rw [pk_po_ne (by decide), pk_po_ne (by decide), pk_po_ne (by decide), pk_po_ne (by decide), pk_po_ne (by decide)]; exact g5 j a (by omega)⟩ (by rw [pk_po_ne (by decide), pk_po_ne (by decide), pk_po_ne (by decide), pk_po_ne (by decide), pk_po_ix (by decide)]; exact a4) (by rw [pk_po_ne (by decide), pk_po_ne (by decide), pk_po_ne (by decide), pk_po_ne (by decide), pk_po_ix (by decide)]; exact a5) (((((hF.pw (by decide)).pw (by decide)).pw (by decide)).pw (by decide)).pw (by decide)) (by funext j; rw [po_ne (by simp), po_ne (by simp), po_ne (by simp), po_ne (by simp), po_ne (by simp)]; rw [h22])
        simp (disch := omega) only [↓x_al_0, ↓gi_76_3, ↓x_le0, ↓gr_76_2, ↓x_c, ↓x_isub, ↓x_il_1, ↓x_lt, ↓x_dup_i, ↓x_dup_r, ↓pi_76_3, ↓gd_76_1, ↓c_41_lB, ↓x_go, ↓x_rt, ↓ld_77, ↓n_54, ↓s_54_53, ↓bk_v, ↓bk_n, ↓bk_r, ↓pv_i, ↓pv_r, ↓pv_0, ↓pv_l, wz_pk, wz_ti, wz_wz, vI_wz, wz_id, wz_0, List.length_cons, List.length_nil, ↓reduceIte, true_and, and_true, Int.reduceLE, Int.reduceLT, Int.reduceEq, not_true_eq_false, not_false_eq_true, false_or, or_false, true_or, or_true, ite_not, Int.reduceNeg, Int32.reduceToInt, Nat.reduceAdd, Nat.reduceLeDiff, Nat.reduceLT, Nat.reduceEqDiff, Int.reduceAdd, Int.reduceSub, Int.reduceMul, Nat.zero_le, pk_po_ne, pk_po_eq, pk_po_ix, rI, ne_eq, g4, e1, e2, e3, if_false, g6, wW, hw, c2, ↓C41 hC2 ⟨h2, by omega⟩]
        exact ih2
      · rw [if_neg (fun h => c1 h.2)] at hr
        have c2 : W (k' - 1) < w := by omega
        have wW : wz (W (k' - 1)) = W (k' - 1) := wz_id (by omega) (by omega)
        have e := hQ M1 (by rw [← hr]; exact hLL) a4 a5 hF h22
        simp (disch := omega) only [↓x_al_0, ↓gi_76_3, ↓x_le0, ↓gr_76_2, ↓x_c, ↓x_isub, ↓x_il_1, ↓x_lt, ↓x_dup_i, ↓x_dup_r, ↓pi_76_3, ↓gd_76_1, ↓c_41_lB, ↓x_go, ↓x_rt, ↓ld_77, ↓n_54, ↓s_54_53, ↓bk_v, ↓bk_n, ↓bk_r, ↓pv_i, ↓pv_r, ↓pv_0, ↓pv_l, wz_pk, wz_ti, wz_wz, vI_wz, wz_id, wz_0, List.length_cons, List.length_nil, ↓reduceIte, true_and, and_true, Int.reduceLE, Int.reduceLT, Int.reduceEq, not_true_eq_false, not_false_eq_true, false_or, or_false, true_or, or_true, ite_not, Int.reduceNeg, Int32.reduceToInt, Nat.reduceAdd, Nat.reduceLeDiff, Nat.reduceLT, Nat.reduceEqDiff, Int.reduceAdd, Int.reduceSub, Int.reduceMul, Nat.zero_le, pk_po_ne, pk_po_eq, pk_po_ix, rI, ne_eq, g4, e1, e2, e3, if_false, g6, wW, hw, c2, if_true]
        exact e
  rw [n_54]
  exact key _ k S M rfl hk (Int.le_refl _) hs.1 hs.2 rfl hL rfl rfl FC.rfl rfl
theorem C50 {q e : Int} (hC : RC S M) (h0 : 0 ≤ q) (h1 : q ≤ e) (h2 : e ≤ 600) : CL 50 [.ref 76] (mkh X s dh dl t (txm M e q)) Q ↔ Q (rI (subj S q e)) (mkh X s dh dl t (txm M e q)) := by
  have i := fun (Q' : MOut → MHp → Prop) (j : Nat) (h3 : j < 1000) (h4 : 0 < (P_txt j).length) (h5 : (P_txt j).length < 100) => C71 (Q := Q') (X := X) (s := s) (dh := dh) (dl := dl) (t := t) (j := j) hC h0 h1 (by omega) h3 h4 h5
  have i11 := fun (Q' : MOut → MHp → Prop) => i Q' 11 (by decide) (by decide) (by decide)
  have i12 := fun (Q' : MOut → MHp → Prop) => i Q' 12 (by decide) (by decide) (by decide)
  have i13 := fun (Q' : MOut → MHp → Prop) => i Q' 13 (by decide) (by decide) (by decide)
  have i14 := fun (Q' : MOut → MHp → Prop) => i Q' 14 (by decide) (by decide) (by decide)
  have i15 := fun (Q' : MOut → MHp → Prop) => i Q' 15 (by decide) (by decide) (by decide)
  have i16 := fun (Q' : MOut → MHp → Prop) => i Q' 16 (by decide) (by decide) (by decide)
  have i17 := fun (Q' : MOut → MHp → Prop) => i Q' 17 (by decide) (by decide) (by decide)
  have i18 := fun (Q' : MOut → MHp → Prop) => i Q' 18 (by decide) (by decide) (by decide)
  have i19 := fun (Q' : MOut → MHp → Prop) => i Q' 19 (by decide) (by decide) (by decide)
  have i20 := fun (Q' : MOut → MHp → Prop) => i Q' 20 (by decide) (by decide) (by decide)
  by_cases b11 : isW S q e (P_txt 11) = true
  · have hs : subj S q e = 0 := by rw [subj, if_pos b11]
    rw [hs]
    simp (disch := omega) only [↓x_al_0, ↓gr_76_0, ↓x_str, ↓c_71, ↓x_eq0, ↓x_c, ↓x_ir, ↓n_50, ↓s_50_0, ↓s_50_14, ↓s_50_28, ↓s_50_42, ↓s_50_56, ↓s_50_70, ↓s_50_84, ↓s_50_99, ↓s_50_114, ↓s_50_129, ↓s_50_144, ↓bk_v, ↓bk_n, ↓bk_r, ↓pv_i, ↓pv_r, ↓pv_0, ↓pv_l, wz_pk, wz_ti, wz_wz, vI_wz, wz_id, wz_0, List.length_cons, List.length_nil, ↓reduceIte, true_and, and_true, Int.reduceLE, Int.reduceLT, Int.reduceEq, not_true_eq_false, not_false_eq_true, false_or, or_false, true_or, or_true, ite_not, Int.reduceNeg, Int32.reduceToInt, Nat.reduceAdd, Nat.reduceLeDiff, Nat.reduceLT, Nat.reduceEqDiff, Int.reduceAdd, Int.reduceSub, Int.reduceMul, Nat.zero_le, pk_po_ne, pk_po_eq, pk_po_ix, rI, ne_eq, ↓i11, b11, bi_wz, bi_0, Bool.true_eq_false, if_true, if_false]
  · have n11 : isW S q e (P_txt 11) = false := by simpa using b11
    by_cases b12 : isW S q e (P_txt 12) = true
    · have hs : subj S q e = 1 := by rw [subj, if_neg b11, if_pos b12]
      rw [hs]
      simp (disch := omega) only [↓x_al_0, ↓gr_76_0, ↓x_str, ↓c_71, ↓x_eq0, ↓x_c, ↓x_ir, ↓n_50, ↓s_50_0, ↓s_50_14, ↓s_50_28, ↓s_50_42, ↓s_50_56, ↓s_50_70, ↓s_50_84, ↓s_50_99, ↓s_50_114, ↓s_50_129, ↓s_50_144, ↓bk_v, ↓bk_n, ↓bk_r, ↓pv_i, ↓pv_r, ↓pv_0, ↓pv_l, wz_pk, wz_ti, wz_wz, vI_wz, wz_id, wz_0, List.length_cons, List.length_nil, ↓reduceIte, true_and, and_true, Int.reduceLE, Int.reduceLT, Int.reduceEq, not_true_eq_false, not_false_eq_true, false_or, or_false, true_or, or_true, ite_not, Int.reduceNeg, Int32.reduceToInt, Nat.reduceAdd, Nat.reduceLeDiff, Nat.reduceLT, Nat.reduceEqDiff, Int.reduceAdd, Int.reduceSub, Int.reduceMul, Nat.zero_le, pk_po_ne, pk_po_eq, pk_po_ix, rI, ne_eq, ↓i11, ↓i12, n11, b12, bi_wz, bi_0, Bool.true_eq_false, if_true, if_false]
    · have n12 : isW S q e (P_txt 12) = false := by simpa using b12
      by_cases b13 : isW S q e (P_txt 13) = true
      · have hs : subj S q e = 2 := by rw [subj, if_neg b11, if_neg b12, if_pos b13]
        rw [hs]
        simp (disch := omega) only [↓x_al_0, ↓gr_76_0, ↓x_str, ↓c_71, ↓x_eq0, ↓x_c, ↓x_ir, ↓n_50, ↓s_50_0, ↓s_50_14, ↓s_50_28, ↓s_50_42, ↓s_50_56, ↓s_50_70, ↓s_50_84, ↓s_50_99, ↓s_50_114, ↓s_50_129, ↓s_50_144, ↓bk_v, ↓bk_n, ↓bk_r, ↓pv_i, ↓pv_r, ↓pv_0, ↓pv_l, wz_pk, wz_ti, wz_wz, vI_wz, wz_id, wz_0, List.length_cons, List.length_nil, ↓reduceIte, true_and, and_true, Int.reduceLE, Int.reduceLT, Int.reduceEq, not_true_eq_false, not_false_eq_true, false_or, or_false, true_or, or_true, ite_not, Int.reduceNeg, Int32.reduceToInt, Nat.reduceAdd, Nat.reduceLeDiff, Nat.reduceLT, Nat.reduceEqDiff, Int.reduceAdd, Int.reduceSub, Int.reduceMul, Nat.zero_le, pk_po_ne, pk_po_eq, pk_po_ix, rI, ne_eq, ↓i11, ↓i12, ↓i13, n11, n12, b13, bi_wz, bi_0, Bool.true_eq_false, if_true, if_false]
      · have n13 : isW S q e (P_txt 13) = false := by simpa using b13
        by_cases b14 : isW S q e (P_txt 14) = true
        · have hs : subj S q e = 3 := by rw [subj, if_neg b11, if_neg b12, if_neg b13, if_pos b14]
          rw [hs]
          simp (disch := omega) only [↓x_al_0, ↓gr_76_0, ↓x_str, ↓c_71, ↓x_eq0, ↓x_c, ↓x_ir, ↓n_50, ↓s_50_0, ↓s_50_14, ↓s_50_28, ↓s_50_42, ↓s_50_56, ↓s_50_70, ↓s_50_84, ↓s_50_99, ↓s_50_114, ↓s_50_129, ↓s_50_144, ↓bk_v, ↓bk_n, ↓bk_r, ↓pv_i, ↓pv_r, ↓pv_0, ↓pv_l, wz_pk, wz_ti, wz_wz, vI_wz, wz_id, wz_0, List.length_cons, List.length_nil, ↓reduceIte, true_and, and_true, Int.reduceLE, Int.reduceLT, Int.reduceEq, not_true_eq_false, not_false_eq_true, false_or, or_false, true_or, or_true, ite_not, Int.reduceNeg, Int32.reduceToInt, Nat.reduceAdd, Nat.reduceLeDiff, Nat.reduceLT, Nat.reduceEqDiff, Int.reduceAdd, Int.reduceSub, Int.reduceMul, Nat.zero_le, pk_po_ne, pk_po_eq, pk_po_ix, rI, ne_eq, ↓i11, ↓i12, ↓i13, ↓i14, n11, n12, n13, b14, bi_wz, bi_0, Bool.true_eq_false, if_true, if_false]
        · have n14 : isW S q e (P_txt 14) = false := by simpa using b14
          by_cases b15 : isW S q e (P_txt 15) = true
          · have hs : subj S q e = 4 := by rw [subj, if_neg b11, if_neg b12, if_neg b13, if_neg b14, if_pos b15]
            rw [hs]
            simp (disch := omega) only [↓x_al_0, ↓gr_76_0, ↓x_str, ↓c_71, ↓x_eq0, ↓x_c, ↓x_ir, ↓n_50, ↓s_50_0, ↓s_50_14, ↓s_50_28, ↓s_50_42, ↓s_50_56, ↓s_50_70, ↓s_50_84, ↓s_50_99, ↓s_50_114, ↓s_50_129, ↓s_50_144, ↓bk_v, ↓bk_n, ↓bk_r, ↓pv_i, ↓pv_r, ↓pv_0, ↓pv_l, wz_pk, wz_ti, wz_wz, vI_wz, wz_id, wz_0, List.length_cons, List.length_nil, ↓reduceIte, true_and, and_true, Int.reduceLE, Int.reduceLT, Int.reduceEq, not_true_eq_false, not_false_eq_true, false_or, or_false, true_or, or_true, ite_not, Int.reduceNeg, Int32.reduceToInt, Nat.reduceAdd, Nat.reduceLeDiff, Nat.reduceLT, Nat.reduceEqDiff, Int.reduceAdd, Int.reduceSub, Int.reduceMul, Nat.zero_le, pk_po_ne, pk_po_eq, pk_po_ix, rI, ne_eq, ↓i11, ↓i12, ↓i13, ↓i14, ↓i15, n11, n12, n13, n14, b15, bi_wz, bi_0, Bool.true_eq_false, if_true, if_false]
          · have n15 : isW S q e (P_txt 15) = false := by simpa using b15
            by_cases b16 : isW S q e (P_txt 16) = true
            · have hs : subj S q e = 5 := by rw [subj, if_neg b11, if_neg b12, if_neg b13, if_neg b14, if_neg b15, if_pos b16]
              rw [hs]
              simp (disch := omega) only [↓x_al_0, ↓gr_76_0, ↓x_str, ↓c_71, ↓x_eq0, ↓x_c, ↓x_ir, ↓n_50, ↓s_50_0, ↓s_50_14, ↓s_50_28, ↓s_50_42, ↓s_50_56, ↓s_50_70, ↓s_50_84, ↓s_50_99, ↓s_50_114, ↓s_50_129, ↓s_50_144, ↓bk_v, ↓bk_n, ↓bk_r, ↓pv_i, ↓pv_r, ↓pv_0, ↓pv_l, wz_pk, wz_ti, wz_wz, vI_wz, wz_id, wz_0, List.length_cons, List.length_nil, ↓reduceIte, true_and, and_true, Int.reduceLE, Int.reduceLT, Int.reduceEq, not_true_eq_false, not_false_eq_true, false_or, or_false, true_or, or_true, ite_not, Int.reduceNeg, Int32.reduceToInt, Nat.reduceAdd, Nat.reduceLeDiff, Nat.reduceLT, Nat.reduceEqDiff, Int.reduceAdd, Int.reduceSub, Int.reduceMul, Nat.zero_le, pk_po_ne, pk_po_eq, pk_po_ix, rI, ne_eq, ↓i11, ↓i12, ↓i13, ↓i14, ↓i15, ↓i16, n11, n12, n13, n14, n15, b16, bi_wz, bi_0, Bool.true_eq_false, if_true, if_false]
            · have n16 : isW S q e (P_txt 16) = false := by simpa using b16
              by_cases b17 : isW S q e (P_txt 17) = true
              · have hs : subj S q e = 6 := by rw [subj, if_neg b11, if_neg b12, if_neg b13, if_neg b14, if_neg b15, if_neg b16, if_pos b17]
                rw [hs]
                simp (disch := omega) only [↓x_al_0, ↓gr_76_0, ↓x_str, ↓c_71, ↓x_eq0, ↓x_c, ↓x_ir, ↓n_50, ↓s_50_0, ↓s_50_14, ↓s_50_28, ↓s_50_42, ↓s_50_56, ↓s_50_70, ↓s_50_84, ↓s_50_99, ↓s_50_114, ↓s_50_129, ↓s_50_144, ↓bk_v, ↓bk_n, ↓bk_r, ↓pv_i, ↓pv_r, ↓pv_0, ↓pv_l, wz_pk, wz_ti, wz_wz, vI_wz, wz_id, wz_0, List.length_cons, List.length_nil, ↓reduceIte, true_and, and_true, Int.reduceLE, Int.reduceLT, Int.reduceEq, not_true_eq_false, not_false_eq_true, false_or, or_false, true_or, or_true, ite_not, Int.reduceNeg, Int32.reduceToInt, Nat.reduceAdd, Nat.reduceLeDiff, Nat.reduceLT, Nat.reduceEqDiff, Int.reduceAdd, Int.reduceSub, Int.reduceMul, Nat.zero_le, pk_po_ne, pk_po_eq, pk_po_ix, rI, ne_eq, ↓i11, ↓i12, ↓i13, ↓i14, ↓i15, ↓i16, ↓i17, n11, n12, n13, n14, n15, n16, b17, bi_wz, bi_0, Bool.true_eq_false, if_true, if_false]
              · have n17 : isW S q e (P_txt 17) = false := by simpa using b17
                by_cases b18 : isW S q e (P_txt 18) = true
                · have hs : subj S q e = 7 := by rw [subj, if_neg b11, if_neg b12, if_neg b13, if_neg b14, if_neg b15, if_neg b16, if_neg b17, if_pos b18]
                  rw [hs]
                  simp (disch := omega) only [↓x_al_0, ↓gr_76_0, ↓x_str, ↓c_71, ↓x_eq0, ↓x_c, ↓x_ir, ↓n_50, ↓s_50_0, ↓s_50_14, ↓s_50_28, ↓s_50_42, ↓s_50_56, ↓s_50_70, ↓s_50_84, ↓s_50_99, ↓s_50_114, ↓s_50_129, ↓s_50_144, ↓bk_v, ↓bk_n, ↓bk_r, ↓pv_i, ↓pv_r, ↓pv_0, ↓pv_l, wz_pk, wz_ti, wz_wz, vI_wz, wz_id, wz_0, List.length_cons, List.length_nil, ↓reduceIte, true_and, and_true, Int.reduceLE, Int.reduceLT, Int.reduceEq, not_true_eq_false, not_false_eq_true, false_or, or_false, true_or, or_true, ite_not, Int.reduceNeg, Int32.reduceToInt, Nat.reduceAdd, Nat.reduceLeDiff, Nat.reduceLT, Nat.reduceEqDiff, Int.reduceAdd, Int.reduceSub, Int.reduceMul, Nat.zero_le, pk_po_ne, pk_po_eq, pk_po_ix, rI, ne_eq, ↓i11, ↓i12, ↓i13, ↓i14, ↓i15, ↓i16, ↓i17, ↓i18, n11, n12, n13, n14, n15, n16, n17, b18, bi_wz, bi_0, Bool.true_eq_false, if_true, if_false]
                · have n18 : isW S q e (P_txt 18) = false := by simpa using b18
                  by_cases b19 : isW S q e (P_txt 19) = true
                  · have hs : subj S q e = 8 := by rw [subj, if_neg b11, if_neg b12, if_neg b13, if_neg b14, if_neg b15, if_neg b16, if_neg b17, if_neg b18, if_pos b19]
                    rw [hs]
                    simp (disch := omega) only [↓x_al_0, ↓gr_76_0, ↓x_str, ↓c_71, ↓x_eq0, ↓x_c, ↓x_ir, ↓n_50, ↓s_50_0, ↓s_50_14, ↓s_50_28, ↓s_50_42, ↓s_50_56, ↓s_50_70, ↓s_50_84, ↓s_50_99, ↓s_50_114, ↓s_50_129, ↓s_50_144, ↓bk_v, ↓bk_n, ↓bk_r, ↓pv_i, ↓pv_r, ↓pv_0, ↓pv_l, wz_pk, wz_ti, wz_wz, vI_wz, wz_id, wz_0, List.length_cons, List.length_nil, ↓reduceIte, true_and, and_true, Int.reduceLE, Int.reduceLT, Int.reduceEq, not_true_eq_false, not_false_eq_true, false_or, or_false, true_or, or_true, ite_not, Int.reduceNeg, Int32.reduceToInt, Nat.reduceAdd, Nat.reduceLeDiff, Nat.reduceLT, Nat.reduceEqDiff, Int.reduceAdd, Int.reduceSub, Int.reduceMul, Nat.zero_le, pk_po_ne, pk_po_eq, pk_po_ix, rI, ne_eq, ↓i11, ↓i12, ↓i13, ↓i14, ↓i15, ↓i16, ↓i17, ↓i18, ↓i19, n11, n12, n13, n14, n15, n16, n17, n18, b19, bi_wz, bi_0, Bool.true_eq_false, if_true, if_false]
                  · have n19 : isW S q e (P_txt 19) = false := by simpa using b19
                    by_cases b20 : isW S q e (P_txt 20) = true
                    · have hs : subj S q e = 9 := by rw [subj, if_neg b11, if_neg b12, if_neg b13, if_neg b14, if_neg b15, if_neg b16, if_neg b17, if_neg b18, if_neg b19, if_pos b20]
                      rw [hs]
                      simp (disch := omega) only [↓x_al_0, ↓gr_76_0, ↓x_str, ↓c_71, ↓x_eq0, ↓x_c, ↓x_ir, ↓n_50, ↓s_50_0, ↓s_50_14, ↓s_50_28, ↓s_50_42, ↓s_50_56, ↓s_50_70, ↓s_50_84, ↓s_50_99, ↓s_50_114, ↓s_50_129, ↓s_50_144, ↓bk_v, ↓bk_n, ↓bk_r, ↓pv_i, ↓pv_r, ↓pv_0, ↓pv_l, wz_pk, wz_ti, wz_wz, vI_wz, wz_id, wz_0, List.length_cons, List.length_nil, ↓reduceIte, true_and, and_true, Int.reduceLE, Int.reduceLT, Int.reduceEq, not_true_eq_false, not_false_eq_true, false_or, or_false, true_or, or_true, ite_not, Int.reduceNeg, Int32.reduceToInt, Nat.reduceAdd, Nat.reduceLeDiff, Nat.reduceLT, Nat.reduceEqDiff, Int.reduceAdd, Int.reduceSub, Int.reduceMul, Nat.zero_le, pk_po_ne, pk_po_eq, pk_po_ix, rI, ne_eq, ↓i11, ↓i12, ↓i13, ↓i14, ↓i15, ↓i16, ↓i17, ↓i18, ↓i19, ↓i20, n11, n12, n13, n14, n15, n16, n17, n18, n19, b20, bi_wz, bi_0, Bool.true_eq_false, if_true, if_false]
                    · have n20 : isW S q e (P_txt 20) = false := by simpa using b20
                      have hs : subj S q e = -1 := by rw [subj, if_neg b11, if_neg b12, if_neg b13, if_neg b14, if_neg b15, if_neg b16, if_neg b17, if_neg b18, if_neg b19, if_neg b20]
                      rw [hs]
                      simp (disch := omega) only [↓x_al_0, ↓gr_76_0, ↓x_str, ↓c_71, ↓x_eq0, ↓x_c, ↓x_ir, ↓n_50, ↓s_50_0, ↓s_50_14, ↓s_50_28, ↓s_50_42, ↓s_50_56, ↓s_50_70, ↓s_50_84, ↓s_50_99, ↓s_50_114, ↓s_50_129, ↓s_50_144, ↓bk_v, ↓bk_n, ↓bk_r, ↓pv_i, ↓pv_r, ↓pv_0, ↓pv_l, wz_pk, wz_ti, wz_wz, vI_wz, wz_id, wz_0, List.length_cons, List.length_nil, ↓reduceIte, true_and, and_true, Int.reduceLE, Int.reduceLT, Int.reduceEq, not_true_eq_false, not_false_eq_true, false_or, or_false, true_or, or_true, ite_not, Int.reduceNeg, Int32.reduceToInt, Nat.reduceAdd, Nat.reduceLeDiff, Nat.reduceLT, Nat.reduceEqDiff, Int.reduceAdd, Int.reduceSub, Int.reduceMul, Nat.zero_le, pk_po_ne, pk_po_eq, pk_po_ix, rI, ne_eq, ↓i11, ↓i12, ↓i13, ↓i14, ↓i15, ↓i16, ↓i17, ↓i18, ↓i19, ↓i20, n11, n12, n13, n14, n15, n16, n17, n18, n19, n20, bi_wz, bi_0, Bool.true_eq_false, if_true, if_false]
end C51
