/-! WHAT HOLDS OF EVERY STATE -/
def INV (S : St) : Prop := hou S ∧ wfl S ∧ crs S 78 ∧ (0 ≤ S 0 1 ∧ S 0 1 ≤ 600) ∧ (0 ≤ S 0 11 ∧ S 0 11 ≤ 3) ∧ (∀ j : Nat, (j : Int) < S 0 11 → crs S (106 + 12 * j))
theorem wfl.st {S T : St} (h : wfl S) (hS : ∀ a, 63 ≤ a → a < 68 → T a = S a) : wfl T := by
  have e1 : ∀ r, lst T r = lst S r := fun r => by unfold lst; rw [hS 67 (by decide) (by decide)]
  have e2 : ∀ r, lgt T r = lgt S r := fun r => by unfold lgt; rw [e1, hS 67 (by decide) (by decide)]
  obtain ⟨h1, h2, h3, h4⟩ := h
  refine ⟨by rw [hS 63 (by decide) (by decide)]; exact h1, ?_, ?_, ?_⟩
  · intro r u v
    rw [hS 63 (by decide) (by decide)] at v
    rw [e1, hS 67 (by decide) (by decide)]
    exact h2 r u v
  · intro r u v n hn
    rw [hS 63 (by decide) (by decide)] at v
    rw [e2] at hn
    rw [e1]
    exact tok_congr (fun m _ => by rw [hS 64 (by decide) (by decide), hS 65 (by decide) (by decide), hS 66 (by decide) (by decide)]; exact ⟨rfl, rfl, rfl⟩) (h3 r u v n hn)
  · intro r u v
    rw [hS 63 (by decide) (by decide)] at v
    rw [e1, e2, tp_congr (S := S) _ (fun m _ => by rw [hS 64 (by decide) (by decide)])]
    exact h4 r u v
theorem crs.st {S T : St} {b : Nat} (h : crs S b) (h3 : T 3 = S 3) (hS : ∀ k, k < 12 → T (b + k) = S (b + k)) : crs T b := by
  have h0 : T b = S b := hS 0 (by decide)
  unfold crs at *
  simp only [h0, h3, hS 1 (by decide), hS 2 (by decide), hS 3 (by decide), hS 4 (by decide), hS 5 (by decide), hS 6 (by decide), hS 7 (by decide), hS 8 (by decide), hS 9 (by decide), hS 10 (by decide), hS 11 (by decide)]
  exact h
theorem INV.upC {S T : St} (h : INV S) (hS : ∀ a, (a < 78 ∨ (90 ≤ a ∧ ¬ a = 105)) → T a = S a) (hc : crs T 78) : INV T := by
  obtain ⟨h1, h2, h3, h4, h5, h6⟩ := h
  refine ⟨h1.st (fun a _ _ => hS a (by omega)), h2.st (fun a _ _ => hS a (by omega)), hc, by rw [hS 0 (by decide)]; exact h4, by rw [hS 0 (by decide)]; exact h5, fun j hj => ?_⟩
  rw [hS 0 (by decide)] at hj
  exact (h6 j hj).st (hS 3 (by decide)) (fun k hk => hS _ (by omega))
theorem INV.ref {S : St} {k : Int} (h : INV S) : INV (rf S k) := by
  have e : ∀ a, ¬ a = 105 → rf S k a = S a := fun a ha => by
    funext j
    unfold rf su
    rw [if_neg (fun h => ha h.1)]
  exact h.upC (fun a ha => e a (by omega)) (h.2.2.1.st (e 3 (by decide)) (fun k hk => e _ (by omega)))
/-- one number of the course changes -/
theorem INV.put {S : St} {b : Nat} {i x : Int} (h : INV S) (hb : 78 ≤ b ∧ b < 90) (hc : crs (su S b i x) 78) : INV (su S b i x) := h.upC (fun a ha => by
  funext j
  unfold su
  rw [if_neg (by omega)]) hc
theorem crs.p83 {S : St} {g x : Int} (h : crs S 78) (hx : 0 ≤ x ∧ x ≤ 9999) : crs (su S 83 g x) 78 := by
  obtain ⟨g1, g2, g3, g4, g5, g6, g7, g8, g9, g10, g11, g12, g13⟩ := h
  refine ⟨?_, ?_, ?_, ?_, ?_, ?_, ?_, ?_, ?_, ?_, ?_, ?_, ?_⟩
  · clear g2 g3 g4 g5 g6 g7 g8 g9 g11 g12 g13; first | (simpa [su] using g1) | (simp only [su]; grind)
  · clear g3 g4 g5 g6 g7 g8 g9 g11 g12 g13; first | (simpa [su] using g2) | (simp only [su]; grind)
  · clear g2 g4 g5 g6 g7 g8 g9 g11 g12 g13; first | (simpa [su] using g3) | (simp only [su]; grind)
  · clear g2 g3 g5 g6 g7 g8 g9 g11 g12 g13; first | (simpa [su] using g4) | (simp only [su]; grind)
  · clear g2 g3 g4 g6 g7 g8 g9 g11 g12 g13; first | (simpa [su] using g5) | (simp only [su]; grind)
  · clear g2 g3 g4 g5 g7 g8 g9 g11 g12 g13; first | (simpa [su] using g6) | (simp only [su]; grind)
  · clear g2 g3 g4 g5 g6 g8 g9 g11 g12 g13; first | (simpa [su] using g7) | (simp only [su]; grind)
  · clear g2 g3 g4 g5 g6 g7 g9 g11 g12 g13; first | (simpa [su] using g8) | (simp only [su]; grind)
  · clear g2 g3 g4 g5 g6 g7 g8 g11 g12 g13; first | (simpa [su] using g9) | (simp only [su]; grind)
  · clear g2 g3 g4 g5 g6 g7 g8 g9 g11 g12 g13; first | (simpa [su] using g10) | (simp only [su]; grind)
  · clear g2 g3 g4 g5 g6 g7 g8 g9 g12 g13; first | (simpa [su] using g11) | (simp only [su]; grind)
  · clear g2 g3 g4 g5 g6 g7 g8 g9 g11 g13; first | (simpa [su] using g12) | (simp only [su]; grind)
  · clear g2 g3 g4 g5 g6 g7 g8 g9 g11 g12; first | (simpa [su] using g13) | (simp only [su]; grind)
theorem crs.p84 {S : St} {g : Int} (h : crs S 78) : crs (su S 84 g 1) 78 := by
  obtain ⟨g1, g2, g3, g4, g5, g6, g7, g8, g9, g10, g11, g12, g13⟩ := h
  refine ⟨?_, ?_, ?_, ?_, ?_, ?_, ?_, ?_, ?_, ?_, ?_, ?_, ?_⟩
  · clear g2 g3 g4 g5 g6 g7 g8 g9 g11 g12 g13; first | (simpa [su] using g1) | (simp only [su]; grind)
  · clear g3 g4 g5 g6 g7 g8 g9 g11 g12 g13; first | (simpa [su] using g2) | (simp only [su]; grind)
  · clear g2 g4 g5 g6 g7 g8 g9 g11 g12 g13; first | (simpa [su] using g3) | (simp only [su]; grind)
  · clear g2 g3 g5 g6 g7 g8 g9 g11 g12 g13; first | (simpa [su] using g4) | (simp only [su]; grind)
  · clear g2 g3 g4 g6 g7 g8 g9 g11 g12 g13; first | (simpa [su] using g5) | (simp only [su]; grind)
  · clear g2 g3 g4 g5 g7 g8 g9 g11 g12 g13; first | (simpa [su] using g6) | (simp only [su]; grind)
  · clear g2 g3 g4 g5 g6 g8 g9 g11 g12 g13; first | (simpa [su] using g7) | (simp only [su]; grind)
  · clear g2 g3 g4 g5 g6 g7 g9 g11 g12 g13; first | (simpa [su] using g8) | (simp only [su]; grind)
  · clear g2 g3 g4 g5 g6 g7 g8 g11 g12 g13; first | (simpa [su] using g9) | (simp only [su]; grind)
  · clear g2 g3 g4 g5 g6 g7 g8 g9 g11 g12 g13; first | (simpa [su] using g10) | (simp only [su]; grind)
  · clear g2 g3 g4 g5 g6 g7 g8 g9 g12 g13; first | (simpa [su] using g11) | (simp only [su]; grind)
  · clear g2 g3 g4 g5 g6 g7 g8 g9 g11 g13; first | (simpa [su] using g12) | (simp only [su]; grind)
  · clear g2 g3 g4 g5 g6 g7 g8 g9 g11 g12; first | (simpa [su] using g13) | (simp only [su]; grind)
theorem crs.p85 {S : St} {g : Int} (h : crs S 78) : crs (su S 85 g 1) 78 := by
  obtain ⟨g1, g2, g3, g4, g5, g6, g7, g8, g9, g10, g11, g12, g13⟩ := h
  refine ⟨?_, ?_, ?_, ?_, ?_, ?_, ?_, ?_, ?_, ?_, ?_, ?_, ?_⟩
  · clear g2 g3 g4 g5 g6 g7 g8 g9 g11 g12 g13; first | (simpa [su] using g1) | (simp only [su]; grind)
  · clear g3 g4 g5 g6 g7 g8 g9 g11 g12 g13; first | (simpa [su] using g2) | (simp only [su]; grind)
  · clear g2 g4 g5 g6 g7 g8 g9 g11 g12 g13; first | (simpa [su] using g3) | (simp only [su]; grind)
  · clear g2 g3 g5 g6 g7 g8 g9 g11 g12 g13; first | (simpa [su] using g4) | (simp only [su]; grind)
  · clear g2 g3 g4 g6 g7 g8 g9 g11 g12 g13; first | (simpa [su] using g5) | (simp only [su]; grind)
  · clear g2 g3 g4 g5 g7 g8 g9 g11 g12 g13; first | (simpa [su] using g6) | (simp only [su]; grind)
  · clear g2 g3 g4 g5 g6 g8 g9 g11 g12 g13; first | (simpa [su] using g7) | (simp only [su]; grind)
  · clear g2 g3 g4 g5 g6 g7 g9 g11 g12 g13; first | (simpa [su] using g8) | (simp only [su]; grind)
  · clear g2 g3 g4 g5 g6 g7 g8 g11 g12 g13; first | (simpa [su] using g9) | (simp only [su]; grind)
  · clear g2 g3 g4 g5 g6 g7 g8 g9 g11 g12 g13; first | (simpa [su] using g10) | (simp only [su]; grind)
  · clear g2 g3 g4 g5 g6 g7 g8 g9 g12 g13; first | (simpa [su] using g11) | (simp only [su]; grind)
  · clear g2 g3 g4 g5 g6 g7 g8 g9 g11 g13; first | (simpa [su] using g12) | (simp only [su]; grind)
  · clear g2 g3 g4 g5 g6 g7 g8 g9 g11 g12; first | (simpa [su] using g13) | (simp only [su]; grind)
theorem crs.p86 {S : St} {g x : Int} (h : crs S 78) (hx : 0 ≤ x ∧ x ≤ 3) : crs (su S 86 g x) 78 := by
  obtain ⟨g1, g2, g3, g4, g5, g6, g7, g8, g9, g10, g11, g12, g13⟩ := h
  refine ⟨?_, ?_, ?_, ?_, ?_, ?_, ?_, ?_, ?_, ?_, ?_, ?_, ?_⟩
  · clear g2 g3 g4 g5 g6 g7 g8 g9 g11 g12 g13; first | (simpa [su] using g1) | (simp only [su]; grind)
  · clear g3 g4 g5 g6 g7 g8 g9 g11 g12 g13; first | (simpa [su] using g2) | (simp only [su]; grind)
  · clear g2 g4 g5 g6 g7 g8 g9 g11 g12 g13; first | (simpa [su] using g3) | (simp only [su]; grind)
  · clear g2 g3 g5 g6 g7 g8 g9 g11 g12 g13; first | (simpa [su] using g4) | (simp only [su]; grind)
  · clear g2 g3 g4 g6 g7 g8 g9 g11 g12 g13; first | (simpa [su] using g5) | (simp only [su]; grind)
  · clear g2 g3 g4 g5 g7 g8 g9 g11 g12 g13; first | (simpa [su] using g6) | (simp only [su]; grind)
  · clear g2 g3 g4 g5 g6 g8 g9 g11 g12 g13; first | (simpa [su] using g7) | (simp only [su]; grind)
  · clear g2 g3 g4 g5 g6 g7 g9 g11 g12 g13; first | (simpa [su] using g8) | (simp only [su]; grind)
  · clear g2 g3 g4 g5 g6 g7 g8 g11 g12 g13; first | (simpa [su] using g9) | (simp only [su]; grind)
  · clear g2 g3 g4 g5 g6 g7 g8 g9 g11 g12 g13; first | (simpa [su] using g10) | (simp only [su]; grind)
  · clear g2 g3 g4 g5 g6 g7 g8 g9 g12 g13; first | (simpa [su] using g11) | (simp only [su]; grind)
  · clear g2 g3 g4 g5 g6 g7 g8 g9 g11 g13; first | (simpa [su] using g12) | (simp only [su]; grind)
  · clear g2 g3 g4 g5 g6 g7 g8 g9 g11 g12; first | (simpa [su] using g13) | (simp only [su]; grind)
theorem crs.p789 {S : St} (h : crs S 78) : crs (su S 78 9 0) 78 := by
  obtain ⟨g1, g2, g3, g4, g5, g6, g7, g8, g9, g10, g11, g12, g13⟩ := h
  refine ⟨?_, ?_, ?_, ?_, ?_, ?_, ?_, ?_, ?_, ?_, ?_, ?_, ?_⟩
  · clear g2 g3 g4 g5 g6 g7 g8 g9 g11 g12 g13; first | (simpa [su] using g1) | (simp only [su]; grind)
  · clear g3 g4 g5 g6 g7 g8 g9 g11 g12 g13; first | (simpa [su] using g2) | (simp only [su]; grind)
  · clear g2 g4 g5 g6 g7 g8 g9 g11 g12 g13; first | (simpa [su] using g3) | (simp only [su]; grind)
  · clear g2 g3 g5 g6 g7 g8 g9 g11 g12 g13; first | (simpa [su] using g4) | (simp only [su]; grind)
  · clear g2 g3 g4 g6 g7 g8 g9 g11 g12 g13; first | (simpa [su] using g5) | (simp only [su]; grind)
  · clear g2 g3 g4 g5 g7 g8 g9 g11 g12 g13; first | (simpa [su] using g6) | (simp only [su]; grind)
  · clear g2 g3 g4 g5 g6 g8 g9 g11 g12 g13; first | (simpa [su] using g7) | (simp only [su]; grind)
  · clear g2 g3 g4 g5 g6 g7 g9 g11 g12 g13; first | (simpa [su] using g8) | (simp only [su]; grind)
  · clear g2 g3 g4 g5 g6 g7 g8 g11 g12 g13; first | (simpa [su] using g9) | (simp only [su]; grind)
  · clear g2 g3 g4 g5 g6 g7 g8 g9 g11 g12 g13; first | (simpa [su] using g10) | (simp only [su]; grind)
  · clear g2 g3 g4 g5 g6 g7 g8 g9 g12 g13; first | (simpa [su] using g11) | (simp only [su]; grind)
  · clear g2 g3 g4 g5 g6 g7 g8 g9 g11 g13; first | (simpa [su] using g12) | (simp only [su]; grind)
  · clear g2 g3 g4 g5 g6 g7 g8 g9 g11 g12; first | (simpa [su] using g13) | (simp only [su]; grind)
theorem crs.pact {S : St} {d g m o : Int} (h : crs S 78) (hd : 0 ≤ d ∧ d < S 3 2) (hg : 0 ≤ g ∧ g < S 3 1) (hm : 0 ≤ m ∧ m ≤ 9999) (ho : 0 ≤ o ∧ o ≤ 2) (h24 : ¬ 24 ≤ S 78 0) : crs (addAct S d g m o) 78 := by
  unfold addAct
  obtain ⟨g1, g2, g3, g4, g5, g6, g7, g8, g9, g10, g11, g12, g13⟩ := h
  refine ⟨?_, ?_, ?_, ?_, ?_, ?_, ?_, ?_, ?_, ?_, ?_, ?_, ?_⟩
  · clear g2 g3 g4 g5 g6 g7 g8 g9 g11 g12 g13; first | (simpa [su] using g1) | (simp only [su]; grind)
  · clear g3 g4 g5 g6 g7 g8 g9 g11 g12 g13; first | (simpa [su] using g2) | (simp only [su]; grind)
  · clear g2 g4 g5 g6 g7 g8 g9 g11 g12 g13; first | (simpa [su] using g3) | (simp only [su]; grind)
  · clear g2 g3 g5 g6 g7 g8 g9 g11 g12 g13; first | (simpa [su] using g4) | (simp only [su]; grind)
  · clear g2 g3 g4 g6 g7 g8 g9 g11 g12 g13; first | (simpa [su] using g5) | (simp only [su]; grind)
  · clear g2 g3 g4 g5 g7 g8 g9 g11 g12 g13; first | (simpa [su] using g6) | (simp only [su]; grind)
  · clear g2 g3 g4 g5 g6 g8 g9 g11 g12 g13; first | (simpa [su] using g7) | (simp only [su]; grind)
  · clear g2 g3 g4 g5 g6 g7 g9 g11 g12 g13; first | (simpa [su] using g8) | (simp only [su]; grind)
  · clear g2 g3 g4 g5 g6 g7 g8 g11 g12 g13; first | (simpa [su] using g9) | (simp only [su]; grind)
  · clear g2 g3 g4 g5 g6 g7 g8 g9 g11 g12 g13; first | (simpa [su] using g10) | (simp only [su]; grind)
  · clear g2 g3 g4 g5 g6 g7 g8 g9 g12 g13; first | (simpa [su] using g11) | (simp only [su]; grind)
  · clear g2 g3 g4 g5 g6 g7 g8 g9 g11 g13; first | (simpa [su] using g12) | (simp only [su]; grind)
  · clear g2 g3 g4 g5 g6 g7 g8 g9 g11 g12; first | (simpa [su] using g13) | (simp only [su]; grind)
theorem crs.pprm {S : St} {d m k : Int} (h : crs S 78) (hd : 0 ≤ d ∧ d < S 3 2) (hm : 1 ≤ m ∧ m ≤ 999) (hk : 0 ≤ k ∧ k ≤ 35) (h8 : ¬ 8 ≤ S 78 9) : crs (su (su (su (su S 87 (S 78 9) d) 88 (S 78 9) m) 89 (S 78 9) k) 78 9 (S 78 9 + 1)) 78 := by
  obtain ⟨g1, g2, g3, g4, g5, g6, g7, g8, g9, g10, g11, g12, g13⟩ := h
  refine ⟨?_, ?_, ?_, ?_, ?_, ?_, ?_, ?_, ?_, ?_, ?_, ?_, ?_⟩
  · clear g2 g3 g4 g5 g6 g7 g8 g9 g11 g12 g13; first | (simpa [su] using g1) | (simp only [su]; grind)
  · clear g3 g4 g5 g6 g7 g8 g9 g11 g12 g13; first | (simpa [su] using g2) | (simp only [su]; grind)
  · clear g2 g4 g5 g6 g7 g8 g9 g11 g12 g13; first | (simpa [su] using g3) | (simp only [su]; grind)
  · clear g2 g3 g5 g6 g7 g8 g9 g11 g12 g13; first | (simpa [su] using g4) | (simp only [su]; grind)
  · clear g2 g3 g4 g6 g7 g8 g9 g11 g12 g13; first | (simpa [su] using g5) | (simp only [su]; grind)
  · clear g2 g3 g4 g5 g7 g8 g9 g11 g12 g13; first | (simpa [su] using g6) | (simp only [su]; grind)
  · clear g2 g3 g4 g5 g6 g8 g9 g11 g12 g13; first | (simpa [su] using g7) | (simp only [su]; grind)
  · clear g2 g3 g4 g5 g6 g7 g9 g11 g12 g13; first | (simpa [su] using g8) | (simp only [su]; grind)
  · clear g2 g3 g4 g5 g6 g7 g8 g11 g12 g13; first | (simpa [su] using g9) | (simp only [su]; grind)
  · clear g2 g3 g4 g5 g6 g7 g8 g9 g11 g12 g13; first | (simpa [su] using g10) | (simp only [su]; grind)
  · clear g2 g3 g4 g5 g6 g7 g8 g9 g12 g13; first | (simpa [su] using g11) | (simp only [su]; grind)
  · clear g2 g3 g4 g5 g6 g7 g8 g9 g11 g13; first | (simpa [su] using g12) | (simp only [su]; grind)
  · clear g2 g3 g4 g5 g6 g7 g8 g9 g11 g12; first | (simpa [su] using g13) | (simp only [su]; grind)
theorem iv_forget {S : St} (h : INV S) : INV (o_forget S).2.2 := h.put (by decide) h.2.2.1.p789
theorem iv_stage {S : St} {p k : Int} (h : INV S) : INV (o_stage S p k).2.2 := by
  unfold o_stage
  split
  · split
    · rename_i hk
      split
      · exact h
      · exact h.put (by decide) (h.2.2.1.p86 hk)
    · exact h.ref
  · exact h.ref
theorem iv_sell {S : St} {g x m : Int} (h : INV S) : INV (o_sell S g x m).2.2 := by
  unfold o_sell
  split
  · split
    · rename_i hk
      split
      · exact h
      · split
        · exact h.put (by decide) h.2.2.1.p84
        · split
          · exact h
          · exact h.put (by decide) (h.2.2.1.p83 hk.1)
    · exact h.ref
  · exact h.ref
theorem iv_aside {S : St} {d : Int} (h : INV S) : INV (o_aside S d).2.2 := by
  unfold o_aside
  split
  · exact h.put (by decide) h.2.2.1.p85
  · exact h.ref
theorem iv_take {S : St} {d g m o : Int} (h : INV S) : INV (o_take S d g m o).2.2 := by
  unfold o_take tkR
  split
  · rename_i h1
    split
    · rename_i h2
      split
      · exact h.ref
      · split
        · exact h
        · split
          · exact h
          · split
            · exact h
            · rename_i h24
              exact h.upC (fun a ha => by funext j; simp only [addAct, su]; grind) (h.2.2.1.pact h1.1 h1.2 h2.1 h2.2 h24)
    · exact h.ref
  · exact h.ref
theorem iv_promise {S : St} {d m k : Int} (h : INV S) : INV (o_promise S d m k).2.2 := by
  unfold o_promise
  split
  · rename_i h1
    split
    · rename_i h2
      split
      · exact h
      · rename_i h8
        exact h.upC (fun a ha => by funext j; simp only [su]; grind) (h.2.2.1.pprm h1 h2.1 h2.2 h8)
    · exact h.ref
  · exact h.ref
theorem iv_feed {S : St} {a b c d e : Int} (h : INV S) : INV (o_feed S a b c d e).2.2 := by
  unfold o_feed
  split
  · exact h
  · rename_i h1
    obtain ⟨h2, h3, h4, h5, h6, h7⟩ := h
    have o := fun (n : Nat) (h : ¬ n = 1) (h0 : ¬ n = 0) => (funext (fun i => ap5_o (S := S) (a := a) (b := b) (c := c) (d := d) (e := e) (i := i) h (fun x => h0 x.1)))
    have o11 : apS (apS (apS (apS (apS S a) b) c) d) e 0 11 = S 0 11 := ap5_o (by decide) (by decide)
    refine ⟨h2.st (fun n _ _ => o n (by omega) (by omega)), h3.st (fun n _ _ => o n (by omega) (by omega)), h4.st (o 3 (by decide) (by decide)) (fun k hk => o _ (by omega) (by omega)), ?_, ?_, ?_⟩
    · simp only
      rw [ap5_t]
      omega
    · simp only
      rw [o11]
      exact h6
    · simp only
      rw [o11]
      intro j hj
      exact (h7 j hj).st (o 3 (by decide) (by decide)) (fun k hk => o _ (by omega) (by omega))
/-- a course copied -/
theorem crs.cp {S T : St} {a b : Nat} (h : crs S a) (h3 : T 3 = S 3) (t0 : T b 0 = S a 0) (t9 : T b 9 = S a 9) (t1 : ∀ j, 0 ≤ j → j < 24 → T (b + 1) j = S (a + 1) j) (t2 : ∀ j, 0 ≤ j → j < 24 → T (b + 2) j = S (a + 2) j) (t3 : ∀ j, 0 ≤ j → j < 24 → T (b + 3) j = S (a + 3) j) (t4 : ∀ j, 0 ≤ j → j < 24 → T (b + 4) j = S (a + 4) j) (t5 : ∀ j, 0 ≤ j → j < 12 → T (b + 5) j = S (a + 5) j) (t6 : ∀ j, 0 ≤ j → j < 12 → T (b + 6) j = S (a + 6) j) (t7 : ∀ j, 0 ≤ j → j < 6 → T (b + 7) j = S (a + 7) j) (t8 : ∀ j, 0 ≤ j → j < 4 → T (b + 8) j = S (a + 8) j) (t10 : ∀ j, 0 ≤ j → j < 8 → T (b + 9) j = S (a + 9) j) (t11 : ∀ j, 0 ≤ j → j < 8 → T (b + 10) j = S (a + 10) j) (t12 : ∀ j, 0 ≤ j → j < 8 → T (b + 11) j = S (a + 11) j) : crs T b := by
  obtain ⟨g1, g2, g3, g4, g5, g6, g7, g8, g9, g10, g11, g12, g13⟩ := h
  unfold crs
  rw [t0, t9, h3]
  refine ⟨g1, ?_, ?_, ?_, ?_, ?_, ?_, ?_, ?_, g10, ?_, ?_, ?_⟩
  · intro i u v; rw [t1 i u (by omega)]; exact g2 i u v
  · intro i u v; rw [t2 i u (by omega)]; exact g3 i u v
  · intro i u v; rw [t3 i u (by omega)]; exact g4 i u v
  · intro i u v; rw [t4 i u (by omega)]; exact g5 i u v
  · intro i u v; rw [t5 i u v]; exact g6 i u v
  · intro i u v; rw [t6 i u v]; exact g7 i u v
  · intro i u v; rw [t7 i u v]; exact g8 i u v
  · intro i u v; rw [t8 i u v]; exact g9 i u v
  · intro i u v; rw [t10 i u (by omega)]; exact g11 i u v
  · intro i u v; rw [t11 i u (by omega)]; exact g12 i u v
  · intro i u v; rw [t12 i u (by omega)]; exact g13 i u v
theorem iv_image {S : St} (h : INV S) : INV (o_image S).2.2 := by
  unfold o_image
  split
  · exact h
  · rename_i h1
    obtain ⟨h2, h3, h4, h5, h6, h7⟩ := h
    obtain ⟨n, hn⟩ : ∃ n : Nat, n = (S 0 11).toNat := ⟨_, rfl⟩
    have en : S 0 11 = n := by omega
    rw [← hn, en]
    simp only
    obtain ⟨t0, t9, t1, t2, t3, t4, t5, t6, t7, t8, t10, t11, t12, to⟩ := cpC_at (S := S) (b := 106 + 12 * n) (a := 78) (Or.inl ⟨rfl, by omega⟩)
    have e0 : ∀ a, ¬ a = 0 → su (cpC S (106 + 12 * n) 78) 0 11 ((n : Int) + 1) a = cpC S (106 + 12 * n) 78 a := fun a ha => by
      funext j
      unfold su
      rw [if_neg (fun h => ha h.1)]
    have e1 : ∀ a, ¬ a = 0 → (a < 106 + 12 * n ∨ 106 + 12 * n + 12 ≤ a) → su (cpC S (106 + 12 * n) 78) 0 11 ((n : Int) + 1) a = S a := fun a ha h2 => by rw [e0 a ha, to a h2]
    have e2 : su (cpC S (106 + 12 * n) 78) 0 11 ((n : Int) + 1) 0 1 = S 0 1 := by
      unfold su
      rw [if_neg (by omega), to 0 (by omega)]
    have e3 : su (cpC S (106 + 12 * n) 78) 0 11 ((n : Int) + 1) 0 11 = n + 1 := by simp [su]
    refine ⟨h2.st (fun a _ _ => e1 a (by omega) (by omega)), h3.st (fun a _ _ => e1 a (by omega) (by omega)), h4.st (e1 3 (by decide) (by omega)) (fun k hk => e1 _ (by omega) (by omega)), by rw [e2]; exact h5, by rw [e3]; omega, fun j hj => ?_⟩
    rw [e3] at hj
    by_cases d : j = n
    · subst d
      refine h4.cp (e1 3 (by decide) (by omega)) ?_ ?_ ?_ ?_ ?_ ?_ ?_ ?_ ?_ ?_ ?_ ?_ ?_
      all_goals rw [e0 _ (by omega)]
      all_goals assumption
    · exact (h7 j (by omega)).st (e1 3 (by decide) (by omega)) (fun k hk => e1 _ (by omega) (by omega))
theorem iv_restore {S : St} (h : INV S) : INV (o_restore S).2.2 := by
  unfold o_restore
  split
  · exact h
  · rename_i h1
    obtain ⟨h2, h3, h4, h5, h6, h7⟩ := h
    obtain ⟨n, hn⟩ : ∃ n : Nat, n = (S 0 11 - 1).toNat := ⟨_, rfl⟩
    have en : S 0 11 - 1 = n := by omega
    rw [en]
    simp only
    rw [show ((n : Int)).toNat = n by omega]
    have hT := cpC_at (S := su S 0 11 (n : Int)) (b := 78) (a := 106 + 12 * n) (Or.inr ⟨rfl, by omega⟩)
    have es : ∀ a, ¬ a = 0 → su S 0 11 (n : Int) a = S a := fun a ha => by
      funext j
      unfold su
      rw [if_neg (fun h => ha h.1)]
    simp only [es (106 + 12 * n) (by omega), es (106 + 12 * n + 1) (by omega), es (106 + 12 * n + 2) (by omega), es (106 + 12 * n + 3) (by omega), es (106 + 12 * n + 4) (by omega), es (106 + 12 * n + 5) (by omega), es (106 + 12 * n + 6) (by omega), es (106 + 12 * n + 7) (by omega), es (106 + 12 * n + 8) (by omega), es (106 + 12 * n + 9) (by omega), es (106 + 12 * n + 10) (by omega), es (106 + 12 * n + 11) (by omega)] at hT
    obtain ⟨t0, t9, t1, t2, t3, t4, t5, t6, t7, t8, t10, t11, t12, to⟩ := hT
    have e1 : ∀ a, ¬ a = 0 → (a < 78 ∨ 90 ≤ a) → cpC (su S 0 11 (n : Int)) 78 (106 + 12 * n) a = S a := fun a ha h2 => by rw [to a (by omega), es a ha]
    have e2 : cpC (su S 0 11 (n : Int)) 78 (106 + 12 * n) 0 1 = S 0 1 := by rw [to 0 (by omega)]; simp [su]
    have e3 : cpC (su S 0 11 (n : Int)) 78 (106 + 12 * n) 0 11 = n := by rw [to 0 (by omega)]; simp [su]
    refine ⟨h2.st (fun a _ _ => e1 a (by omega) (by omega)), h3.st (fun a _ _ => e1 a (by omega) (by omega)), (h7 n (by omega)).cp (e1 3 (by decide) (by omega)) t0 t9 t1 t2 t3 t4 t5 t6 t7 t8 t10 t11 t12, by rw [e2]; exact h5, by rw [e3]; omega, fun j hj => ?_⟩
    rw [e3] at hj
    exact (h7 j (by omega)).st (e1 3 (by decide) (by omega)) (fun k hk => e1 _ (by omega) (by omega))
theorem k_all_hag {n : Int} : ∀ (k : Nat) (c p : Int) (S : St) (i y : Int) (S2 : St), p ≤ n → nho S → k_all n k c p S = (i, y, S2) → hag S S2 ∧ (i = 0 → nho S2) := by
  intro k
  induction k with
  | zero =>
    intro c p S i y S2 hp hH h
    simp only [k_all, Prod.mk.injEq] at h
    obtain ⟨rfl, rfl, rfl⟩ := h
    exact ⟨hag.rfl, fun h => by omega⟩
  | succ k ih =>
    intro c p S i y S2 hp hH h
    have hs := sk_rng (S := S) hp
    have hwe := we_rng (S := S) hs.2
    simp only [k_all] at h
    split at h
    · simp only [Prod.mk.injEq] at h
      obtain ⟨rfl, rfl, rfl⟩ := h
      exact ⟨hag.rfl, fun _ => hH⟩
    · rcases hr : k_clause S n (decide (c = 60)) (sk S n p) (we S n (sk S n p)) with ⟨r1, r2, r3⟩
      rw [hr] at h
      simp only at h
      split at h
      · rename_i hr1
        subst hr1
        obtain ⟨k1, k2, k3⟩ := kp_clause hwe.2 hH hr
        split at h
        · rename_i h59
          obtain ⟨z1, z2⟩ := ih _ _ _ _ _ _ (by omega) k1 h
          exact ⟨k3.trans z1, z2⟩
        · simp only [Prod.mk.injEq] at h
          obtain ⟨rfl, rfl, rfl⟩ := h
          exact ⟨k3, fun h => by omega⟩
      · rename_i hr1
        simp only [Prod.mk.injEq] at h
        obtain ⟨rfl, rfl, rfl⟩ := h
        rw [kc_S hr1 hr]
        exact ⟨hag.rfl, fun h => absurd h hr1⟩
theorem iv_house {S : St} {n : Int} (h : INV S) : INV (o_house S n).2.2 := by
  unfold o_house
  split
  · rename_i h0
    obtain ⟨h2, h3, h4, h5, h6, h7⟩ := h
    rcases hr : hsR S n with ⟨i, y, S2⟩
    have hk := k_all_hag 61 0 0 _ i y S2 h0.1 nho_clr hr
    obtain ⟨k1, k2⟩ := hk
    have s1 : ∀ a, ¬ a = 0 → ¬ a = 2 → (a < 33 ∨ 63 ≤ a) → S2 a = S a := by
      intro a e1 e2 e3
      rw [k1 a e3]
      funext j
      simp only [clrH, su, flS]
      grind
    have z1 : S2 0 1 = 0 := by rw [k1 0 (by omega)]; simp [clrH, su, flS]
    have z11 : S2 0 11 = S 0 11 := by rw [k1 0 (by omega)]; simp [clrH, su, flS]
    simp only
    split
    · rename_i hi
      have hH := k2 hi
      simp only
      have s2 : ∀ a, ¬ a = 0 → ¬ (78 ≤ a ∧ a < 90) → su (clrC (swSH S2)) 0 11 0 a = swSH S2 a := by
        intro a h1 h3
        funext j
        simp only [su, clrC, flS]
        grind
      have hh : ∀ a, 3 ≤ a → a < 33 → su (clrC (swSH S2)) 0 11 0 a = S2 (a + 30) := by
        intro a h1 h3
        rw [s2 a (by omega) (by omega)]
        unfold swSH
        rw [if_pos ⟨h1, h3⟩]
      have s0 : su (clrC (swSH S2)) 0 11 0 0 1 = 0 := by
        have : su (clrC (swSH S2)) 0 11 0 0 1 = S2 0 1 := by simp only [su, clrC, flS, swSH]; grind
        rw [this]; exact z1
      have s11 : su (clrC (swSH S2)) 0 11 0 0 11 = 0 := by simp [su]
      refine ⟨?_, h3.st (fun a e1 e2 => ?_), ?_, by rw [s0]; omega, by rw [s11]; omega, fun j hj => by rw [s11] at hj; omega⟩
      · obtain ⟨g1, g2, g3, g4, g5, g6, g7, g8, g9, g10, g11, g12, g13, g14, g15, g16, -⟩ := hH
        unfold hou
        simp only [hh 3 (by decide) (by decide), hh 4 (by decide) (by decide), hh 5 (by decide) (by decide), hh 10 (by decide) (by decide), hh 11 (by decide) (by decide), hh 12 (by decide) (by decide), hh 13 (by decide) (by decide), hh 14 (by decide) (by decide), hh 27 (by decide) (by decide), hh 28 (by decide) (by decide), hh 29 (by decide) (by decide), hh 30 (by decide) (by decide), hh 31 (by decide) (by decide), hh 32 (by decide) (by decide), Nat.reduceAdd]
        exact ⟨g1, g2, g3, g4, g5, g6, g7, g8, g9, g10, g11, g12, g13, g14, g15, g16⟩
      · rw [s2 a (by omega) (by omega)]
        unfold swSH
        rw [if_neg (by omega), if_neg (by omega), s1 a (by omega) (by omega) (by omega)]
      · have v0 : su (clrC (swSH S2)) 0 11 0 78 0 = 0 := by simp [su, clrC, flS]
        have v9 : su (clrC (swSH S2)) 0 11 0 78 9 = 0 := by simp [su, clrC, flS]
        unfold crs
        rw [v0, v9]
        refine ⟨by omega, fun i u v => by omega, fun i u v => by omega, fun i u v => by omega, fun i u v => by omega, ?_, ?_, ?_, ?_, by omega, fun i u v => by omega, fun i u v => by omega, fun i u v => by omega⟩
        · intro i e1 e2; simp [su, clrC, flS, e1, e2]
        · intro i e1 e2; simp [su, clrC, flS, e1, e2]
        · intro i e1 e2; simp [su, clrC, flS, e1, e2]
        · intro i e1 e2; simp [su, clrC, flS, e1, e2]
    · simp only
      have e0 : ∀ a, ¬ a = 0 → ¬ a = 2 → (a < 33 ∨ 63 ≤ a) → su S2 2 5 y a = S a := by
        intro a e1 e2 e3
        funext j
        unfold su
        rw [if_neg (fun h => e2 h.1), s1 a e1 e2 e3]
      have es0 : ∀ i, su S2 2 5 y 0 i = S2 0 i := fun i => by unfold su; rw [if_neg (by omega)]
      refine ⟨h2.st (fun a _ _ => e0 a (by omega) (by omega) (by omega)), h3.st (fun a _ _ => e0 a (by omega) (by omega) (by omega)), h4.st (e0 3 (by decide) (by decide) (by decide)) (fun k hk => e0 _ (by omega) (by omega) (by omega)), by rw [es0, z1]; omega, by rw [es0, z11]; exact h6, fun j hj => ?_⟩
      rw [es0, z11] at hj
      exact (h7 j hj).st (e0 3 (by decide) (by decide) (by decide)) (fun k hk => e0 _ (by omega) (by omega) (by omega))
  · exact h.ref
theorem iv_rules {S : St} {n : Int} (h : INV S) : INV (o_rules S n).2.2 := by
  unfold o_rules
  split
  · rename_i h0
    obtain ⟨h2, h3, h4, h5, h6, h7⟩ := h
    rcases hr : lwR S n with ⟨i, y, S2⟩
    have v0 : clrL (su (su S 0 1 0) 2 5 (-1)) 69 0 = 0 := by simp [clrL, su]
    have v1 : clrL (su (su S 0 1 0) 2 5 (-1)) 69 1 = 0 := by simp [clrL, su]
    have hk := wf_all (n := n) (by omega) 11 0 0 _ i y S2 (by decide) (by decide) (by decide) h0.1 v0 (by omega) (by omega) ⟨fun h => by omega, fun _ => v1⟩ ⟨by rw [sl64.2.2.2.2, v0]; omega, fun r u v => by rw [sl64.2.2.2.2, v0] at v; omega, fun r u v => by rw [sl64.2.2.2.2, v0] at v; omega, fun r u v => by rw [sl64.2.2.2.2, v0] at v; omega⟩ hr
    obtain ⟨k1, k2⟩ := hk
    have s1 : ∀ a, ¬ a = 0 → ¬ a = 2 → (a < 69 ∨ 74 ≤ a) → S2 a = S a := by
      intro a e1 e2 e3
      rw [k1 a e3]
      funext j
      simp only [clrL, su]
      rw [if_neg (by omega), if_neg (by omega), if_neg (by omega), if_neg (by omega)]
    have z1 : S2 0 1 = 0 := by rw [k1 0 (by omega)]; simp [clrL, su]
    have z11 : S2 0 11 = S 0 11 := by rw [k1 0 (by omega)]; simp [clrL, su]
    simp only
    split
    · rename_i hi
      simp only
      have k0 : ∀ a, ¬ a = 0 → ¬ a = 2 → (a < 63 ∨ 75 ≤ a) → swSL S2 a = S a := by
        intro a e1 e2 e3
        unfold swSL
        rw [if_neg (by omega), if_neg (by omega), s1 a e1 e2 (by omega)]
      have k00 : ∀ i, swSL S2 0 i = S2 0 i := fun i => by unfold swSL; rw [if_neg (by omega), if_neg (by omega)]
      refine ⟨h2.st (fun a _ _ => k0 a (by omega) (by omega) (by omega)), k2 hi, h4.st (k0 3 (by decide) (by decide) (by decide)) (fun k hk => k0 _ (by omega) (by omega) (by omega)), by rw [k00, z1]; omega, by rw [k00, z11]; exact h6, fun j hj => ?_⟩
      rw [k00, z11] at hj
      exact (h7 j hj).st (k0 3 (by decide) (by decide) (by decide)) (fun k hk => k0 _ (by omega) (by omega) (by omega))
    · simp only
      have e0 : ∀ a, ¬ a = 0 → ¬ a = 2 → (a < 69 ∨ 74 ≤ a) → su S2 2 5 y a = S a := by
        intro a e1 e2 e3
        funext j
        unfold su
        rw [if_neg (fun h => e2 h.1), s1 a e1 e2 e3]
      have es0 : ∀ i, su S2 2 5 y 0 i = S2 0 i := fun i => by unfold su; rw [if_neg (by omega)]
      refine ⟨h2.st (fun a _ _ => e0 a (by omega) (by omega) (by omega)), h3.st (fun a _ _ => e0 a (by omega) (by omega) (by omega)), h4.st (e0 3 (by decide) (by decide) (by decide)) (fun k hk => e0 _ (by omega) (by omega) (by omega)), by rw [es0, z1]; omega, by rw [es0, z11]; exact h6, fun j hj => ?_⟩
      rw [es0, z11] at hj
      exact (h7 j hj).st (e0 3 (by decide) (by decide) (by decide)) (fun k hk => e0 _ (by omega) (by omega) (by omega))
  · exact h.ref
theorem iv_told {S : St} {w : Int} (h : INV S) : INV (o_told S w).2.2 := by
  unfold o_told
  (try unfold tkR)
  repeat' split
  all_goals first | exact h | exact h.ref
theorem iv_income {S : St} {p m : Int} (h : INV S) : INV (o_income S p m).2.2 := by
  unfold o_income
  (try unfold tkR)
  repeat' split
  all_goals first | exact h | exact h.ref
theorem iv_good {S : St} {g w : Int} (h : INV S) : INV (o_good S g w).2.2 := by
  unfold o_good
  (try unfold tkR)
  repeat' split
  all_goals first | exact h | exact h.ref
theorem iv_part {S : St} {g p : Int} (h : INV S) : INV (o_part S g p).2.2 := by
  unfold o_part
  (try unfold tkR)
  repeat' split
  all_goals first | exact h | exact h.ref
theorem iv_act {S : St} {i w : Int} (h : INV S) : INV (o_act S i w).2.2 := by
  unfold o_act
  (try unfold tkR)
  repeat' split
  all_goals first | exact h | exact h.ref
theorem iv_person {S : St} {p w : Int} (h : INV S) : INV (o_person S p w).2.2 := by
  unfold o_person
  (try unfold tkR)
  repeat' split
  all_goals first | exact h | exact h.ref
theorem iv_debt {S : St} {d w : Int} (h : INV S) : INV (o_debt S d w).2.2 := by
  unfold o_debt
  (try unfold tkR)
  repeat' split
  all_goals first | exact h | exact h.ref
theorem iv_isSo {S : St} {r d g m o : Int} (h : INV S) : INV (o_isSo S r d g m o).2.2 := by
  unfold o_isSo
  (try unfold tkR)
  repeat' split
  all_goals first | exact h | exact h.ref
theorem iv_bars {S : St} {d g m o : Int} (h : INV S) : INV (o_bars S d g m o).2.2 := by
  unfold o_bars
  (try unfold tkR)
  repeat' split
  all_goals first | exact h | exact h.ref
theorem iv_late {S : St} {d g m o : Int} (h : INV S) : INV (o_late S d g m o).2.2 := by
  unfold o_late
  (try unfold tkR)
  repeat' split
  all_goals first | exact h | exact h.ref
theorem iv_when {S : St} {d g m o : Int} (h : INV S) : INV (o_when S d g m o).2.2 := by
  unfold o_when
  (try unfold tkR)
  repeat' split
  all_goals first | exact h | exact h.ref
theorem iv_kept {S : St} {k w : Int} (h : INV S) : INV (o_kept S k w).2.2 := by
  unfold o_kept
  (try unfold tkR)
  repeat' split
  all_goals first | exact h | exact h.ref
theorem iv_spare {S : St} {p m : Int} (h : INV S) : INV (o_spare S p m).2.2 := by
  unfold o_spare
  (try unfold tkR)
  repeat' split
  all_goals first | exact h | exact h.ref
theorem iv_best {S : St} {d m w : Int} (h : INV S) : INV (o_best S d m w).2.2 := by
  unfold o_best
  (try unfold tkR)
  repeat' split
  all_goals first | exact h | exact h.ref
theorem iv_cover {S : St} {d m o w : Int} (h : INV S) : INV (o_cover S d m o w).2.2 := by
  unfold o_cover
  (try unfold tkR)
  repeat' split
  all_goals first | exact h | exact h.ref
theorem iv_drawn {S : St} {p x w : Int} (h : INV S) : INV (o_drawn S p x w).2.2 := by
  unfold o_drawn
  (try unfold tkR)
  repeat' split
  all_goals first | exact h | exact h.ref
