section R86
variable {Q : MOut → MHp → Prop} {X : Nat × (Nat → Int32)} {s : Bool × Bool} {dh dl t : Nat} {M : Mem} {S : St} {p n x k : Int} {W : Int → Int}
theorem R148 (h0 : 0 ≤ p) (h1 : p ≤ n) (h3 : n ≤ 300) (hT : TR S n M) (hq : RNl S M) (hb : pk M 142 5 = -1) (hl : 0 ≤ S 69 1 ∧ S 69 1 ≤ p)
    (hok : ∀ q S' W' M', l_test n 301 0 p S (fun _ => 0) 0 = (0, q + 1, 2, S', W', 0) → RNl S' M' → lag S S' → NL M M' → pk M' 142 5 = -1 → 0 ≤ q → q < n → S 1 q = 59 → sk S n q = q → Q (.inl none) (mkh X s dh dl t (ra M' q)))
    (hbad : ∀ i y j S' W' k' M', ¬ i = 0 → l_test n 301 0 p S (fun _ => 0) 0 = (i, y, j, S', W', k') → lag S S' → NL M M' → BAD M' i y → Q (.inl none) (mkh X s dh dl t M'))
    (hsig : ∀ y j S' W' k' M', l_test n 301 0 p S (fun _ => 0) 0 = (1, y, j, S', W', k') → lag S S' → NL M M' → pk M' 142 5 = -1 → 0 ≤ y → y ≤ n → sk S n y = y → ¬ chr S n y = 59 → Q (.inl none) (mkh X s dh dl t (ra M' y))) : CL 148 [.ref 142] (mkh X s dh dl t (ra M p)) Q := by
  have nn : NL M (po M 142 34 0) := NL.rfl.pw rfl
  have hb1 : pk (po M 142 34 0) 142 5 = -1 := by rw [pk_po_ix (by decide)]; exact hb
  have hq1 : TQ S (fun _ => 0) 0 (po M 142 34 0) := by
    obtain ⟨a1, a2, a3, a4⟩ := hq
    exact ⟨⟨by rw [pk_po_ix (by decide)]; exact a1, fun i u v => by rw [pk_po_ne (by decide)]; exact a2 i u v, fun i u v => by rw [pk_po_ne (by decide)]; exact a3 i u v, fun i u v => by rw [pk_po_ne (by decide)]; exact a4 i u v⟩, by rw [pk_po_eq]; rfl, fun j u v => by omega⟩
  have main := (R148l (Q := Q) (X := X) (s := s) (dh := dh) (dl := dl) (t := t) (M0 := M) (S0 := S) (l_test n 301 0 p S (fun _ => 0) 0) h3 hok hbad hsig 301).1 p S (fun _ => 0) 0 (po M 142 34 0) .null .null ⟨hl.1, by decide, by omega, h1, fun j u v => by omega⟩ (by omega) (hT.nl nn) hq1 hb1 lag.rfl nn rfl
  have hfi : pk (ra (po M 142 34 0) p) 142 5 = -1 := by rw [ra_x (by decide)]; exact hb1
  simp (disch := omega) only [↓x_al_0, ↓x_c, ↓pi_142_34, ↓x_is_1, ↓x_is_2, ↓c_123, ↓x_eq0, ↓x_il_2, ↓c_125, ↓x_eq, ↓c_128, ↓x_str, ↓c_129, ↓x_lcw0, ↓x_lcw1, ↓x_ne0, ↓x_ne, ↓x_dup_i, ↓x_dup_r, ↓gi_142_4, ↓x_iadd, ↓pi_142_4, ↓x_inc_1, ↓c_147, ↓x_go, ↓c_130, ↓c_149, ↓c_146, ↓x_il_1, ↓x_le0, ↓gi_142_34, ↓x_isub, ↓x_rt, ↓x_ls_3, ↓x_ll_3, ↓c_124, ↓n_148, ↓s_148_0, ↓s_148_43, ↓s_148_73, ↓s_148_86, ↓s_148_154, ↓s_148_162, ↓s_148_189, ↓s_148_193, ↓s_148_194, ↓s_148_202, ↓s_148_223, ↓s_148_225, ↓s_148_245, ↓s_148_247, ↓s_148_253, ↓s_148_261, ↓s_148_274, ↓bk_v, ↓bk_n, ↓bk_r, ↓pv_i, ↓pv_r, ↓pv_0, ↓pv_l, wz_pk, wz_ti, wz_wz, vI_wz, wz_id, wz_0, List.length_cons, List.length_nil, ↓reduceIte, true_and, and_true, Int.reduceLE, Int.reduceLT, Int.reduceEq, not_true_eq_false, not_false_eq_true, false_or, or_false, true_or, or_true, ite_not, Int.reduceNeg, Int32.reduceToInt, Nat.reduceAdd, Nat.reduceLeDiff, Nat.reduceLT, Nat.reduceEqDiff, Int.reduceAdd, Int.reduceSub, Int.reduceMul, Nat.zero_le, pk_po_ne, pk_po_eq, pk_po_ix, rI, ne_eq, ra_px]
  rw [s_148_9]
  simp (disch := omega) only [↓x_al_0, ↓x_c, ↓pi_142_34, ↓x_is_1, ↓x_is_2, ↓c_123, ↓x_eq0, ↓x_il_2, ↓c_125, ↓x_eq, ↓c_128, ↓x_str, ↓c_129, ↓x_lcw0, ↓x_lcw1, ↓x_ne0, ↓x_ne, ↓x_dup_i, ↓x_dup_r, ↓gi_142_4, ↓x_iadd, ↓pi_142_4, ↓x_inc_1, ↓c_147, ↓x_go, ↓c_130, ↓c_149, ↓c_146, ↓x_il_1, ↓x_le0, ↓gi_142_34, ↓x_isub, ↓x_rt, ↓x_ls_3, ↓x_ll_3, ↓c_124, ↓n_148, ↓s_148_0, ↓s_148_43, ↓s_148_73, ↓s_148_86, ↓s_148_154, ↓s_148_162, ↓s_148_189, ↓s_148_193, ↓s_148_194, ↓s_148_202, ↓s_148_223, ↓s_148_225, ↓s_148_245, ↓s_148_247, ↓s_148_253, ↓s_148_261, ↓s_148_274, ↓bk_v, ↓bk_n, ↓bk_r, ↓pv_i, ↓pv_r, ↓pv_0, ↓pv_l, wz_pk, wz_ti, wz_wz, vI_wz, wz_id, wz_0, List.length_cons, List.length_nil, ↓reduceIte, true_and, and_true, Int.reduceLE, Int.reduceLT, Int.reduceEq, not_true_eq_false, not_false_eq_true, false_or, or_false, true_or, or_true, ite_not, Int.reduceNeg, Int32.reduceToInt, Nat.reduceAdd, Nat.reduceLeDiff, Nat.reduceLT, Nat.reduceEqDiff, Int.reduceAdd, Int.reduceSub, Int.reduceMul, Nat.zero_le, pk_po_ne, pk_po_eq, pk_po_ix, rI, ne_eq, ↓R123, hfi, decide_true, bi_wz, bi_0, Bool.true_eq_false, if_false]
  exact main
def LI (S : St) : Prop := (0 < S 69 0 → S 73 (S 69 0 - 1) = S 69 1) ∧ (S 69 0 = 0 → S 69 1 = 0)
def LG (S S' : St) : Prop := ∀ a, (a < 69 ∨ 74 ≤ a) → S' a = S a
theorem R150l {M1 : Mem} {S1 : St} (R : K3) (h3 : n ≤ 300)
    (hd : ∀ y S2 M2, R = (0, y, S2) → RNl S2 M2 → LI S2 → LG S1 S2 → (0 ≤ S2 69 0 ∧ S2 69 0 ≤ 10) → (0 ≤ S2 69 1 ∧ S2 69 1 ≤ 300) → NL M1 M2 → pk M2 142 5 = -1 → ∀ b, EX 150 (sx 150 147) [.ref 142, vI n, vI (S2 69 0), b] [] (mkh X s dh dl t M2) Q)
    (hf : ∀ k y S2 M2, ¬ k = 0 → R = (k, y, S2) → LG S1 S2 → NL M1 M2 → BAD M2 k y → ∀ a b, EX 150 (sx 150 147) [.ref 142, vI n, a, b] [] (mkh X s dh dl t M2) Q) :
    ∀ (m : Nat) (c p : Int) (S : St) (M : Mem), c + m = 11 → 0 ≤ c → c ≤ 10 → 0 ≤ p → p ≤ n → TR S n M → RNl S M → LI S → S 69 0 = c → 0 ≤ S 69 1 → S 69 1 ≤ p → LG S1 S → NL M1 M → pk M 142 5 = -1 → l_all n m c p S = R → ∀ b, EX 150 (sx 150 52) [.ref 142, vI n, vI c, b] [] (mkh X s dh dl t (ra M p)) Q := by
  intro m
  induction m with
  | zero => intro c p S M h1 h2 h3; omega
  | succ m ih =>
    intro c p S M e1 e2 e3 h0 h1 hT hN hI hc hs0 hs1 hG hF hb hR b
    have n6 := hT.2.2
    have hs := sk_rng (S := S) h1
    have hwe := we_rng (S := S) hs.2
    have sq := sk_sk (S := S) (n := n) (p := p)
    have hfi : ∀ y, pk (ra M y) 142 5 = -1 := fun y => by rw [ra_x (by decide)]; exact hb
    have x1 : wz (sk S n p) = sk S n p := wz_id (by omega) (by omega)
    have x2 : ¬ sk S n p = -1 := by omega
    have wc : wz c = c := wz_id (by omega) (by omega)
    simp only [l_all] at hR
    rw [s_150_52]
    by_cases c1 : n ≤ sk S n p
    · rw [if_pos c1] at hR
      have c2 : ¬ sk S n p < n := by omega
      have z := hd _ S (ra M (sk S n p)) hR.symm hN.ra hI hG (by omega) (by omega) hF.ra (hfi _) b
      rw [hc] at z
      simp (disch := omega) only [↓x_al_0, ↓x_c, ↓pi_142_0, ↓x_il_1, ↓x_lt0, ↓gi_142_2, ↓x_gt, ↓x_go, ↓c_119, ↓x_ne0, ↓x_ir, ↓c_134, ↓pi_142_32, ↓x_is_2, ↓c_123, ↓x_eq0, ↓c_133, ↓c_128, ↓x_str, ↓c_129, ↓x_lcw0, ↓x_lcw1, ↓gi_142_4, ↓c_124, ↓x_il_2, ↓x_ne, ↓c_130, ↓c_148, ↓c_132, ↓x_inc_2, ↓gr_142_29, ↓gi_142_32, ↓gi_142_5, ↓pi_142_31, ↓x_is_3, ↓x_il_3, ↓gr_142_28, ↓x_inc_3, ↓x_ge, ↓gr_142_24, ↓gr_142_26, ↓gr_142_25, ↓gr_142_27, ↓gi_142_31, ↓c_135, ↓ld_153, ↓st_153, ↓ld_154, ↓st_154, ↓ld_155, ↓st_155, ↓ld_156, ↓st_156, ↓ld_157, ↓st_157, ↓ld_158, ↓st_158, ↓n_150, ↓s_150_0, ↓s_150_29, ↓s_150_30, ↓s_150_40, ↓s_150_92, ↓s_150_107, ↓s_150_117, ↓s_150_180, ↓s_150_186, ↓s_150_193, ↓s_150_233, ↓bk_v, ↓bk_n, ↓bk_r, ↓pv_i, ↓pv_r, ↓pv_0, ↓pv_l, wz_pk, wz_ti, wz_wz, vI_wz, wz_id, wz_0, List.length_cons, List.length_nil, ↓reduceIte, true_and, and_true, Int.reduceLE, Int.reduceLT, Int.reduceEq, not_true_eq_false, not_false_eq_true, false_or, or_false, true_or, or_true, ite_not, Int.reduceNeg, Int32.reduceToInt, Nat.reduceAdd, Nat.reduceLeDiff, Nat.reduceLT, Nat.reduceEqDiff, Int.reduceAdd, Int.reduceSub, Int.reduceMul, Nat.zero_le, pk_po_ne, pk_po_eq, pk_po_ix, rI, ne_eq, ↓R123, hfi, decide_true, bi_wz, bi_0, Bool.true_eq_false, if_false, ↓R133 hT h0 h1, c2, decide_false, if_true]
      exact z
    · rw [if_neg c1] at hR
      have c2 : sk S n p < n := by omega
      have r128b : ∀ (Q : MOut → MHp → Prop), (CL 128 [.ref 142] (mkh X s dh dl t (ra M (sk S n p))) Q ↔ Q (.inl (some (vJ (wrd S (sk S n p) (we S n (sk S n p)))))) (mkh X s dh dl t (ra M (sk S n p)))) := fun Q => by
        have := R128 (Q := Q) (X := X) (s := s) (dh := dh) (dl := dl) (t := t) hT (show 0 ≤ sk S n p by omega) hs.2
        rw [sq] at this
        exact this
      have v33 := wrd_j (S := S) (n := n) (q := sk S n p) 33 9 wl.2.2.2.2.2.2.2.2.2.2.2.2.2 (by decide) hs.2
      by_cases c3 : isW S (sk S n p) (we S n (sk S n p)) (P_txt 9) = true
      · rw [if_pos c3] at hR
        by_cases c4 : c = 10
        · rw [if_pos c4] at hR
          have hb2 : BAD (ra (po (po M 142 5 (sk S n p)) 142 6 3) (sk S n p)) 3 (sk S n p) := ⟨by simp [pk_po, pk_flm, ra]; exact x1, by simp [pk_po, pk_flm, ra]; rfl, x2⟩
          have z := hf 3 (sk S n p) S _ (by decide) hR.symm hG (hF.trans (((NL.rfl.pw rfl).pw rfl).ra)) hb2
          have hb3 : ¬ pk (ra (po (po M 142 5 (sk S n p)) 142 6 3) (sk S n p)) 142 5 = -1 := by rw [hb2.1]; exact x2
          simp (disch := omega) only [↓x_al_0, ↓x_c, ↓pi_142_0, ↓x_il_1, ↓x_lt0, ↓gi_142_2, ↓x_gt, ↓x_go, ↓c_119, ↓x_ne0, ↓x_ir, ↓c_134, ↓pi_142_32, ↓x_is_2, ↓c_123, ↓x_eq0, ↓c_133, ↓c_128, ↓x_str, ↓c_129, ↓x_lcw0, ↓x_lcw1, ↓gi_142_4, ↓c_124, ↓x_il_2, ↓x_ne, ↓c_130, ↓c_148, ↓c_132, ↓x_inc_2, ↓gr_142_29, ↓gi_142_32, ↓gi_142_5, ↓pi_142_31, ↓x_is_3, ↓x_il_3, ↓gr_142_28, ↓x_inc_3, ↓x_ge, ↓gr_142_24, ↓gr_142_26, ↓gr_142_25, ↓gr_142_27, ↓gi_142_31, ↓c_135, ↓ld_153, ↓st_153, ↓ld_154, ↓st_154, ↓ld_155, ↓st_155, ↓ld_156, ↓st_156, ↓ld_157, ↓st_157, ↓ld_158, ↓st_158, ↓n_150, ↓s_150_0, ↓s_150_29, ↓s_150_30, ↓s_150_40, ↓s_150_92, ↓s_150_107, ↓s_150_117, ↓s_150_180, ↓s_150_186, ↓s_150_193, ↓s_150_233, ↓bk_v, ↓bk_n, ↓bk_r, ↓pv_i, ↓pv_r, ↓pv_0, ↓pv_l, wz_pk, wz_ti, wz_wz, vI_wz, wz_id, wz_0, List.length_cons, List.length_nil, ↓reduceIte, true_and, and_true, Int.reduceLE, Int.reduceLT, Int.reduceEq, not_true_eq_false, not_false_eq_true, false_or, or_false, true_or, or_true, ite_not, Int.reduceNeg, Int32.reduceToInt, Nat.reduceAdd, Nat.reduceLeDiff, Nat.reduceLT, Nat.reduceEqDiff, Int.reduceAdd, Int.reduceSub, Int.reduceMul, Nat.zero_le, pk_po_ne, pk_po_eq, pk_po_ix, rI, ne_eq, ↓R123, hfi, decide_true, bi_wz, bi_0, Bool.true_eq_false, if_false, ↓R133 hT h0 h1, c2, ↓r128b, ↓R129j (j := 33) (by decide) (by decide), v33, c3, if_true, wc, c4, ra_4, ↓R124f (hfi _), ra_px, hb3, decide_false]
          exact z _ _
        · rw [if_neg c4] at hR
          -- the end of a rule that failed
          have bad : ∀ k y S2 M2, ¬ k = 0 → R = (k, y, S2) → LG S1 S2 → NL M M2 → BAD M2 k y → EX 150 [(131, I_inc 2 1), (134, I_al 0 1), (135, I_gr 29 11 196), (138, I_il 2 1), (139, I_al 0 1), (140, I_gi 32 11 199), (143, I_iast), (144, I_go 52), (147, I_al 0 1), (148, I_gi 5 11 172), (151, I_c 0 0 0 (-1)), (152, I_icmp 1 233), (155, I_al 0 1), (156, I_il 2 1), (157, I_pi 31 11 198), (160, I_c 0 0 0 0), (161, I_is 3 1), (162, I_il 3 1), (163, I_il 2 1), (164, I_icmp 4 193), (167, I_al 0 1), (168, I_gr 28 11 195), (171, I_il 3 1), (172, I_il 3 1), (173, I_if 1 180), (176, I_c 0 0 0 0), (177, I_go 186), (180, I_al 0 1), (181, I_gr 29 11 196), (184, I_il 3 1), (185, I_iald), (186, I_iast), (187, I_inc 3 1), (190, I_go 162), (193, I_c 0 0 0 0), (194, I_is 3 1), (195, I_il 3 1), (196, I_al 0 1), (197, I_gi 32 11 199), (200, I_icmp 3 233), (203, I_al 0 1), (204, I_gr 24 11 191), (207, I_il 3 1), (208, I_al 0 1), (209, I_gr 26 11 193), (212, I_il 3 1), (213, I_iald), (214, I_iast), (215, I_al 0 1), (216, I_gr 25 11 192), (219, I_il 3 1), (220, I_al 0 1), (221, I_gr 27 11 194), (224, I_il 3 1), (225, I_iald), (226, I_iast), (227, I_inc 3 1), (230, I_go 195), (233, I_al 0 1), (234, I_al 0 1), (235, I_gi 31 11 198), (238, I_v 135 1 129), (241, I_ir 0)] [.ref 142, vI n, vI c, b] [] (mkh X s dh dl t M2) Q := by
            intro k y S2 M2 hk hRr hg nl hbd
            have b1 : c + 1 < 11 := by omega
            have b2 : 0 ≤ c + 1 := by omega
            have hb3 : BAD (po M2 158 (c + 1) (pk M2 142 32)) k y := ⟨by rw [pk_po_ne (by decide)]; exact hbd.1, by rw [pk_po_ne (by decide)]; exact hbd.2.1, hbd.2.2⟩
            have hb4 : ¬ pk M2 142 5 = -1 := by rw [hbd.1]; exact hbd.2.2
            have z := hf k y S2 _ hk hRr hg ((hF.trans nl).pw rfl) hb3
            simp (disch := omega) only [↓x_al_0, ↓x_c, ↓pi_142_0, ↓x_il_1, ↓x_lt0, ↓gi_142_2, ↓x_gt, ↓x_go, ↓c_119, ↓x_ne0, ↓x_ir, ↓c_134, ↓pi_142_32, ↓x_is_2, ↓c_123, ↓x_eq0, ↓c_133, ↓c_128, ↓x_str, ↓c_129, ↓x_lcw0, ↓x_lcw1, ↓gi_142_4, ↓c_124, ↓x_il_2, ↓x_ne, ↓c_130, ↓c_148, ↓c_132, ↓x_inc_2, ↓gr_142_29, ↓gi_142_32, ↓gi_142_5, ↓pi_142_31, ↓x_is_3, ↓x_il_3, ↓gr_142_28, ↓x_inc_3, ↓x_ge, ↓gr_142_24, ↓gr_142_26, ↓gr_142_25, ↓gr_142_27, ↓gi_142_31, ↓c_135, ↓ld_153, ↓st_153, ↓ld_154, ↓st_154, ↓ld_155, ↓st_155, ↓ld_156, ↓st_156, ↓ld_157, ↓st_157, ↓ld_158, ↓st_158, ↓n_150, ↓s_150_0, ↓s_150_29, ↓s_150_30, ↓s_150_40, ↓s_150_92, ↓s_150_107, ↓s_150_117, ↓s_150_180, ↓s_150_186, ↓s_150_193, ↓s_150_233, ↓bk_v, ↓bk_n, ↓bk_r, ↓pv_i, ↓pv_r, ↓pv_0, ↓pv_l, wz_pk, wz_ti, wz_wz, vI_wz, wz_id, wz_0, List.length_cons, List.length_nil, ↓reduceIte, true_and, and_true, Int.reduceLE, Int.reduceLT, Int.reduceEq, not_true_eq_false, not_false_eq_true, false_or, or_false, true_or, or_true, ite_not, Int.reduceNeg, Int32.reduceToInt, Nat.reduceAdd, Nat.reduceLeDiff, Nat.reduceLT, Nat.reduceEqDiff, Int.reduceAdd, Int.reduceSub, Int.reduceMul, Nat.zero_le, pk_po_ne, pk_po_eq, pk_po_ix, rI, ne_eq, b1, b2]
            rw [s_150_52]
            simp (disch := omega) only [↓x_al_0, ↓x_c, ↓pi_142_0, ↓x_il_1, ↓x_lt0, ↓gi_142_2, ↓x_gt, ↓x_go, ↓c_119, ↓x_ne0, ↓x_ir, ↓c_134, ↓pi_142_32, ↓x_is_2, ↓c_123, ↓x_eq0, ↓c_133, ↓c_128, ↓x_str, ↓c_129, ↓x_lcw0, ↓x_lcw1, ↓gi_142_4, ↓c_124, ↓x_il_2, ↓x_ne, ↓c_130, ↓c_148, ↓c_132, ↓x_inc_2, ↓gr_142_29, ↓gi_142_32, ↓gi_142_5, ↓pi_142_31, ↓x_is_3, ↓x_il_3, ↓gr_142_28, ↓x_inc_3, ↓x_ge, ↓gr_142_24, ↓gr_142_26, ↓gr_142_25, ↓gr_142_27, ↓gi_142_31, ↓c_135, ↓ld_153, ↓st_153, ↓ld_154, ↓st_154, ↓ld_155, ↓st_155, ↓ld_156, ↓st_156, ↓ld_157, ↓st_157, ↓ld_158, ↓st_158, ↓n_150, ↓s_150_0, ↓s_150_29, ↓s_150_30, ↓s_150_40, ↓s_150_92, ↓s_150_107, ↓s_150_117, ↓s_150_180, ↓s_150_186, ↓s_150_193, ↓s_150_233, ↓bk_v, ↓bk_n, ↓bk_r, ↓pv_i, ↓pv_r, ↓pv_0, ↓pv_l, wz_pk, wz_ti, wz_wz, vI_wz, wz_id, wz_0, List.length_cons, List.length_nil, ↓reduceIte, true_and, and_true, Int.reduceLE, Int.reduceLT, Int.reduceEq, not_true_eq_false, not_false_eq_true, false_or, or_false, true_or, or_true, ite_not, Int.reduceNeg, Int32.reduceToInt, Nat.reduceAdd, Nat.reduceLeDiff, Nat.reduceLT, Nat.reduceEqDiff, Int.reduceAdd, Int.reduceSub, Int.reduceMul, Nat.zero_le, pk_po_ne, pk_po_eq, pk_po_ix, rI, ne_eq, ↓R123, hb4, decide_false, bi_wz, bi_0, if_true]
            exact z _ _
          have lt0 : ∀ r, r = l_test n 301 0 (we S n (sk S n p)) S (fun _ => 0) 0 → (if r.1 = 0 then l_all n m (c + 1) r.2.1 (endR r.2.2.2.1) else (r.1, r.2.1, r.2.2.2.1)) = R := by
            intro r hr; rw [hr]; exact hR
          clear hR
          simp (disch := omega) only [↓x_al_0, ↓x_c, ↓pi_142_0, ↓x_il_1, ↓x_lt0, ↓gi_142_2, ↓x_gt, ↓x_go, ↓c_119, ↓x_ne0, ↓x_ir, ↓c_134, ↓pi_142_32, ↓x_is_2, ↓c_123, ↓x_eq0, ↓c_133, ↓c_128, ↓x_str, ↓c_129, ↓x_lcw0, ↓x_lcw1, ↓gi_142_4, ↓c_124, ↓x_il_2, ↓x_ne, ↓c_130, ↓c_148, ↓c_132, ↓x_inc_2, ↓gr_142_29, ↓gi_142_32, ↓gi_142_5, ↓pi_142_31, ↓x_is_3, ↓x_il_3, ↓gr_142_28, ↓x_inc_3, ↓x_ge, ↓gr_142_24, ↓gr_142_26, ↓gr_142_25, ↓gr_142_27, ↓gi_142_31, ↓c_135, ↓ld_153, ↓st_153, ↓ld_154, ↓st_154, ↓ld_155, ↓st_155, ↓ld_156, ↓st_156, ↓ld_157, ↓st_157, ↓ld_158, ↓st_158, ↓n_150, ↓s_150_0, ↓s_150_29, ↓s_150_30, ↓s_150_40, ↓s_150_92, ↓s_150_107, ↓s_150_117, ↓s_150_147, ↓s_150_180, ↓s_150_186, ↓s_150_193, ↓s_150_233, ↓bk_v, ↓bk_n, ↓bk_r, ↓pv_i, ↓pv_r, ↓pv_0, ↓pv_l, wz_pk, wz_ti, wz_wz, vI_wz, wz_id, wz_0, List.length_cons, List.length_nil, ↓reduceIte, true_and, and_true, Int.reduceLE, Int.reduceLT, Int.reduceEq, not_true_eq_false, not_false_eq_true, false_or, or_false, true_or, or_true, ite_not, Int.reduceNeg, Int32.reduceToInt, Nat.reduceAdd, Nat.reduceLeDiff, Nat.reduceLT, Nat.reduceEqDiff, Int.reduceAdd, Int.reduceSub, Int.reduceMul, Nat.zero_le, pk_po_ne, pk_po_eq, pk_po_ix, rI, ne_eq, ↓R123, hfi, decide_true, bi_wz, bi_0, Bool.true_eq_false, if_false, ↓R133 hT h0 h1, c2, ↓r128b, ↓R129j (j := 33) (by decide) (by decide), v33, c3, if_true, wc, c4, ↓R130 hT (show 0 ≤ sk S n p by omega) hs.2]
          refine R148 (by omega) hwe.2 h3 hT hN hb ⟨hs0, by omega⟩ ?_ ?_ ?_
          · intro q S' W' M' r1 r2 r3 r4 r5 q0 q1 q2 q3
            have hR := lt0 _ r1.symm
            simp only [if_true] at hR
            have lb := lb_test 301 0 (we S n (sk S n p)) S (fun _ => 0) 0 _ _ _ _ _ ⟨hs0, by decide, by omega, hwe.2, fun j u v => by omega⟩ r1
            obtain ⟨b1, b2, b3⟩ := lb
            have t1 := r3.1 1 (by omega)
            have hT' : TR S' n M' := (hT.nl r4).st t1
            have sq' : sk S' n q = q := by rw [sk_hag t1]; exact q3
            have hch : chr S' n q = 59 := by unfold chr; rw [if_pos q1, t1]; exact q2
            have h690 : S' 69 0 = c := by rw [r3.2.2]; exact hc
            have e0 : endR S' 69 0 = c + 1 := by simp [endR, su, h690]
            have e1' : endR S' 69 1 = S' 69 1 := by simp [endR, su]
            have g32 := r2.1
            have i1 : c + 1 < 11 := by omega
            have i2 : 0 ≤ c + 1 := by omega
            have rn : RNl (endR S') (po M' 158 (c + 1) (S' 69 1)) := by
              obtain ⟨a1, a2, a3, a4⟩ := r2
              refine ⟨?_, ?_, ?_, ?_⟩
              · rw [e1', pk_po_ne (by decide)]; exact a1
              · intro i u v
                rw [e1'] at v
                rw [pk_po_ne (by decide), a2 i u v]; simp [endR, su]
              · intro i u v
                rw [e1'] at v
                rw [pk_po_ne (by decide), a3 i u v]; simp [endR, su]
              · intro r u v
                rw [e0] at v
                rw [pk_po]
                by_cases d : r = c
                · subst d
                  rw [if_pos ⟨rfl, rfl⟩, wz_of a1]; simp [endR, su, h690]
                · rw [if_neg (by omega), a4 r u (by omega)]; simp [endR, su, h690, d]
            have z := ih (c + 1) (q + 1) (endR S') (po M' 158 (c + 1) (S' 69 1)) (by omega) (by omega) (by omega) (by omega) (by omega) ((hT'.nl (NL.rfl.pw rfl)).st (by funext j; simp [endR, su])) rn ⟨fun _ => by rw [e0, e1', show c + 1 - 1 = c by omega]; simp [endR, su, h690], fun h => by rw [e0] at h; omega⟩ e0 (by rw [e1']; exact b2.1) (by rw [e1']; exact b2.2) (fun a ha => by
              rw [← hG a ha, ← r3.1 a ha]
              funext j
              simp only [endR, su]
              rw [if_neg (by omega), if_neg (by omega)]) ((hF.trans r4).pw rfl) (by rw [pk_po_ne (by decide)]; exact r5) hR
            simp (disch := omega) only [↓x_al_0, ↓x_c, ↓pi_142_0, ↓x_il_1, ↓x_lt0, ↓gi_142_2, ↓x_gt, ↓x_go, ↓c_119, ↓x_ne0, ↓x_ir, ↓c_134, ↓pi_142_32, ↓x_is_2, ↓c_123, ↓x_eq0, ↓c_133, ↓c_128, ↓x_str, ↓c_129, ↓x_lcw0, ↓x_lcw1, ↓gi_142_4, ↓c_124, ↓x_il_2, ↓x_ne, ↓c_130, ↓c_148, ↓c_132, ↓x_inc_2, ↓gr_142_29, ↓gi_142_32, ↓gi_142_5, ↓pi_142_31, ↓x_is_3, ↓x_il_3, ↓gr_142_28, ↓x_inc_3, ↓x_ge, ↓gr_142_24, ↓gr_142_26, ↓gr_142_25, ↓gr_142_27, ↓gi_142_31, ↓c_135, ↓ld_153, ↓st_153, ↓ld_154, ↓st_154, ↓ld_155, ↓st_155, ↓ld_156, ↓st_156, ↓ld_157, ↓st_157, ↓ld_158, ↓st_158, ↓n_150, ↓s_150_0, ↓s_150_29, ↓s_150_30, ↓s_150_40, ↓s_150_92, ↓s_150_107, ↓s_150_117, ↓s_150_147, ↓s_150_180, ↓s_150_186, ↓s_150_193, ↓s_150_233, ↓bk_v, ↓bk_n, ↓bk_r, ↓pv_i, ↓pv_r, ↓pv_0, ↓pv_l, wz_pk, wz_ti, wz_wz, vI_wz, wz_id, wz_0, List.length_cons, List.length_nil, ↓reduceIte, true_and, and_true, Int.reduceLE, Int.reduceLT, Int.reduceEq, not_true_eq_false, not_false_eq_true, false_or, or_false, true_or, or_true, ite_not, Int.reduceNeg, Int32.reduceToInt, Nat.reduceAdd, Nat.reduceLeDiff, Nat.reduceLT, Nat.reduceEqDiff, Int.reduceAdd, Int.reduceSub, Int.reduceMul, Nat.zero_le, pk_po_ne, pk_po_eq, pk_po_ix, rI, ne_eq, ↓R132 (c := 59) hT' q0 (show q ≤ n by omega) r5 rfl, sq', hch, if_true, ra_x, ra_po, g32, i1, i2]
            exact z _
          · intro i y j S' W' k' M' hi r1 r2 r3 r4
            have hR := lt0 _ r1.symm
            simp only [hi, if_false] at hR
            have hb2 : ¬ pk M' 142 5 = -1 := by rw [r4.1]; exact r4.2.2
            have z := bad i y S' M' hi hR.symm (fun a ha => by rw [r2.1 a ha, hG a ha]) r3 r4
            simp only [↓x_al_0, ↓x_c, ↓pi_142_0, ↓x_il_1, ↓x_lt0, ↓gi_142_2, ↓x_gt, ↓x_go, ↓c_119, ↓x_ne0, ↓x_ir, ↓c_134, ↓pi_142_32, ↓x_is_2, ↓c_123, ↓x_eq0, ↓c_133, ↓c_128, ↓x_str, ↓c_129, ↓x_lcw0, ↓x_lcw1, ↓gi_142_4, ↓c_124, ↓x_il_2, ↓x_ne, ↓c_130, ↓c_148, ↓c_132, ↓x_inc_2, ↓gr_142_29, ↓gi_142_32, ↓gi_142_5, ↓pi_142_31, ↓x_is_3, ↓x_il_3, ↓gr_142_28, ↓x_inc_3, ↓x_ge, ↓gr_142_24, ↓gr_142_26, ↓gr_142_25, ↓gr_142_27, ↓gi_142_31, ↓c_135, ↓ld_153, ↓st_153, ↓ld_154, ↓st_154, ↓ld_155, ↓st_155, ↓ld_156, ↓st_156, ↓ld_157, ↓st_157, ↓ld_158, ↓st_158, ↓n_150, ↓s_150_0, ↓s_150_29, ↓s_150_30, ↓s_150_40, ↓s_150_92, ↓s_150_107, ↓s_150_117, ↓s_150_147, ↓s_150_180, ↓s_150_186, ↓s_150_193, ↓s_150_233, ↓bk_v, ↓bk_n, ↓bk_r, ↓pv_i, ↓pv_r, ↓pv_0, ↓pv_l, wz_pk, wz_ti, wz_wz, vI_wz, wz_id, wz_0, List.length_cons, List.length_nil, ↓reduceIte, true_and, and_true, Int.reduceLE, Int.reduceLT, Int.reduceEq, not_true_eq_false, not_false_eq_true, false_or, or_false, true_or, or_true, ite_not, Int.reduceNeg, Int32.reduceToInt, Nat.reduceAdd, Nat.reduceLeDiff, Nat.reduceLT, Nat.reduceEqDiff, Int.reduceAdd, Int.reduceSub, Int.reduceMul, Nat.zero_le, pk_po_ne, pk_po_eq, pk_po_ix, rI, ne_eq, ↓R132b hb2]
            simp only [↓x_al_0, ↓x_c, ↓pi_142_0, ↓x_il_1, ↓x_lt0, ↓gi_142_2, ↓x_gt, ↓x_go, ↓c_119, ↓x_ne0, ↓x_ir, ↓c_134, ↓pi_142_32, ↓x_is_2, ↓c_123, ↓x_eq0, ↓c_133, ↓c_128, ↓x_str, ↓c_129, ↓x_lcw0, ↓x_lcw1, ↓gi_142_4, ↓c_124, ↓x_il_2, ↓x_ne, ↓c_130, ↓c_148, ↓c_132, ↓x_inc_2, ↓gr_142_29, ↓gi_142_32, ↓gi_142_5, ↓pi_142_31, ↓x_is_3, ↓x_il_3, ↓gr_142_28, ↓x_inc_3, ↓x_ge, ↓gr_142_24, ↓gr_142_26, ↓gr_142_25, ↓gr_142_27, ↓gi_142_31, ↓c_135, ↓ld_153, ↓st_153, ↓ld_154, ↓st_154, ↓ld_155, ↓st_155, ↓ld_156, ↓st_156, ↓ld_157, ↓st_157, ↓ld_158, ↓st_158, ↓n_150, ↓s_150_0, ↓s_150_29, ↓s_150_30, ↓s_150_40, ↓s_150_92, ↓s_150_107, ↓s_150_117, ↓s_150_147, ↓s_150_180, ↓s_150_186, ↓s_150_193, ↓s_150_233, ↓bk_v, ↓bk_n, ↓bk_r, ↓pv_i, ↓pv_r, ↓pv_0, ↓pv_l, wz_pk, wz_ti, wz_wz, vI_wz, wz_id, wz_0, List.length_cons, List.length_nil, ↓reduceIte, true_and, and_true, Int.reduceLE, Int.reduceLT, Int.reduceEq, not_true_eq_false, not_false_eq_true, false_or, or_false, true_or, or_true, ite_not, Int.reduceNeg, Int32.reduceToInt, Nat.reduceAdd, Nat.reduceLeDiff, Nat.reduceLT, Nat.reduceEqDiff, Int.reduceAdd, Int.reduceSub, Int.reduceMul, Nat.zero_le, pk_po_ne, pk_po_eq, pk_po_ix, rI, ne_eq] at z
            exact z
          · intro y j S' W' k' M' r1 r2 r3 r4 y0 y1 y2 y3
            have hR := lt0 _ r1.symm
            simp only [Int.reduceEq, if_false] at hR
            have t1 := r2.1 1 (by omega)
            have hT' : TR S n M' := hT.nl r3
            have xx1 : wz y = y := wz_id (by omega) (by omega)
            have xx2 : ¬ y = -1 := by omega
            have z := bad 1 y S' (ra (po (po M' 142 5 y) 142 6 1) y) (by decide) hR.symm (fun a ha => by rw [r2.1 a ha, hG a ha]) (r3.trans (((NL.rfl.pw rfl).pw rfl).ra)) ⟨by simp [pk_po, pk_flm, ra]; exact xx1, by simp [pk_po, pk_flm, ra]; rfl, xx2⟩
            simp only [↓x_al_0, ↓x_c, ↓pi_142_0, ↓x_il_1, ↓x_lt0, ↓gi_142_2, ↓x_gt, ↓x_go, ↓c_119, ↓x_ne0, ↓x_ir, ↓c_134, ↓pi_142_32, ↓x_is_2, ↓c_123, ↓x_eq0, ↓c_133, ↓c_128, ↓x_str, ↓c_129, ↓x_lcw0, ↓x_lcw1, ↓gi_142_4, ↓c_124, ↓x_il_2, ↓x_ne, ↓c_130, ↓c_148, ↓c_132, ↓x_inc_2, ↓gr_142_29, ↓gi_142_32, ↓gi_142_5, ↓pi_142_31, ↓x_is_3, ↓x_il_3, ↓gr_142_28, ↓x_inc_3, ↓x_ge, ↓gr_142_24, ↓gr_142_26, ↓gr_142_25, ↓gr_142_27, ↓gi_142_31, ↓c_135, ↓ld_153, ↓st_153, ↓ld_154, ↓st_154, ↓ld_155, ↓st_155, ↓ld_156, ↓st_156, ↓ld_157, ↓st_157, ↓ld_158, ↓st_158, ↓n_150, ↓s_150_0, ↓s_150_29, ↓s_150_30, ↓s_150_40, ↓s_150_92, ↓s_150_107, ↓s_150_117, ↓s_150_147, ↓s_150_180, ↓s_150_186, ↓s_150_193, ↓s_150_233, ↓bk_v, ↓bk_n, ↓bk_r, ↓pv_i, ↓pv_r, ↓pv_0, ↓pv_l, wz_pk, wz_ti, wz_wz, vI_wz, wz_id, wz_0, List.length_cons, List.length_nil, ↓reduceIte, true_and, and_true, Int.reduceLE, Int.reduceLT, Int.reduceEq, not_true_eq_false, not_false_eq_true, false_or, or_false, true_or, or_true, ite_not, Int.reduceNeg, Int32.reduceToInt, Nat.reduceAdd, Nat.reduceLeDiff, Nat.reduceLT, Nat.reduceEqDiff, Int.reduceAdd, Int.reduceSub, Int.reduceMul, Nat.zero_le, pk_po_ne, pk_po_eq, pk_po_ix, rI, ne_eq, ↓R132 (c := 59) hT' y0 y1 r4 rfl, y2, y3, if_false]
            simp only [↓x_al_0, ↓x_c, ↓pi_142_0, ↓x_il_1, ↓x_lt0, ↓gi_142_2, ↓x_gt, ↓x_go, ↓c_119, ↓x_ne0, ↓x_ir, ↓c_134, ↓pi_142_32, ↓x_is_2, ↓c_123, ↓x_eq0, ↓c_133, ↓c_128, ↓x_str, ↓c_129, ↓x_lcw0, ↓x_lcw1, ↓gi_142_4, ↓c_124, ↓x_il_2, ↓x_ne, ↓c_130, ↓c_148, ↓c_132, ↓x_inc_2, ↓gr_142_29, ↓gi_142_32, ↓gi_142_5, ↓pi_142_31, ↓x_is_3, ↓x_il_3, ↓gr_142_28, ↓x_inc_3, ↓x_ge, ↓gr_142_24, ↓gr_142_26, ↓gr_142_25, ↓gr_142_27, ↓gi_142_31, ↓c_135, ↓ld_153, ↓st_153, ↓ld_154, ↓st_154, ↓ld_155, ↓st_155, ↓ld_156, ↓st_156, ↓ld_157, ↓st_157, ↓ld_158, ↓st_158, ↓n_150, ↓s_150_0, ↓s_150_29, ↓s_150_30, ↓s_150_40, ↓s_150_92, ↓s_150_107, ↓s_150_117, ↓s_150_147, ↓s_150_180, ↓s_150_186, ↓s_150_193, ↓s_150_233, ↓bk_v, ↓bk_n, ↓bk_r, ↓pv_i, ↓pv_r, ↓pv_0, ↓pv_l, wz_pk, wz_ti, wz_wz, vI_wz, wz_id, wz_0, List.length_cons, List.length_nil, ↓reduceIte, true_and, and_true, Int.reduceLE, Int.reduceLT, Int.reduceEq, not_true_eq_false, not_false_eq_true, false_or, or_false, true_or, or_true, ite_not, Int.reduceNeg, Int32.reduceToInt, Nat.reduceAdd, Nat.reduceLeDiff, Nat.reduceLT, Nat.reduceEqDiff, Int.reduceAdd, Int.reduceSub, Int.reduceMul, Nat.zero_le, pk_po_ne, pk_po_eq, pk_po_ix, rI, ne_eq] at z
            exact z
      · rw [if_neg c3] at hR
        have hb2 : BAD (ra (po (po M 142 5 (sk S n p)) 142 6 1) (sk S n p)) 1 (sk S n p) := ⟨by simp [pk_po, pk_flm, ra]; exact x1, by simp [pk_po, pk_flm, ra]; rfl, x2⟩
        have z := hf 1 (sk S n p) S _ (by decide) hR.symm hG (hF.trans (((NL.rfl.pw rfl).pw rfl).ra)) hb2
        have hb3 : ¬ pk (ra (po (po M 142 5 (sk S n p)) 142 6 1) (sk S n p)) 142 5 = -1 := by rw [hb2.1]; exact x2
        simp (disch := omega) only [↓x_al_0, ↓x_c, ↓pi_142_0, ↓x_il_1, ↓x_lt0, ↓gi_142_2, ↓x_gt, ↓x_go, ↓c_119, ↓x_ne0, ↓x_ir, ↓c_134, ↓pi_142_32, ↓x_is_2, ↓c_123, ↓x_eq0, ↓c_133, ↓c_128, ↓x_str, ↓c_129, ↓x_lcw0, ↓x_lcw1, ↓gi_142_4, ↓c_124, ↓x_il_2, ↓x_ne, ↓c_130, ↓c_148, ↓c_132, ↓x_inc_2, ↓gr_142_29, ↓gi_142_32, ↓gi_142_5, ↓pi_142_31, ↓x_is_3, ↓x_il_3, ↓gr_142_28, ↓x_inc_3, ↓x_ge, ↓gr_142_24, ↓gr_142_26, ↓gr_142_25, ↓gr_142_27, ↓gi_142_31, ↓c_135, ↓ld_153, ↓st_153, ↓ld_154, ↓st_154, ↓ld_155, ↓st_155, ↓ld_156, ↓st_156, ↓ld_157, ↓st_157, ↓ld_158, ↓st_158, ↓n_150, ↓s_150_0, ↓s_150_29, ↓s_150_30, ↓s_150_40, ↓s_150_92, ↓s_150_107, ↓s_150_117, ↓s_150_180, ↓s_150_186, ↓s_150_193, ↓s_150_233, ↓bk_v, ↓bk_n, ↓bk_r, ↓pv_i, ↓pv_r, ↓pv_0, ↓pv_l, wz_pk, wz_ti, wz_wz, vI_wz, wz_id, wz_0, List.length_cons, List.length_nil, ↓reduceIte, true_and, and_true, Int.reduceLE, Int.reduceLT, Int.reduceEq, not_true_eq_false, not_false_eq_true, false_or, or_false, true_or, or_true, ite_not, Int.reduceNeg, Int32.reduceToInt, Nat.reduceAdd, Nat.reduceLeDiff, Nat.reduceLT, Nat.reduceEqDiff, Int.reduceAdd, Int.reduceSub, Int.reduceMul, Nat.zero_le, pk_po_ne, pk_po_eq, pk_po_ix, rI, ne_eq, ↓R123, hfi, decide_true, bi_wz, bi_0, Bool.true_eq_false, if_false, ↓R133 hT h0 h1, c2, ↓r128b, ↓R129j (j := 33) (by decide) (by decide), v33, c3, if_true, ra_4, ↓R124f (hfi _), ra_px, hb3, decide_false]
        exact z _ _
end R86
