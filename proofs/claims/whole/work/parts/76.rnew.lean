/-! a house that is read, in both memories -/
section R76
variable {M : Mem} {S : St}
theorem RN.person {v w : Int} (h : RN S M) (hH : nho S) (hp : S 33 0 ≤ 3) (hv : wz v = v) (hw : wz w = w) : RN (su (su (flS S 35 (36 * S 33 0) 36 v) 34 (S 33 0) w) 33 0 (S 33 0 + 1)) (po (po (flm (po M 145 (38 * S 33 0) w) 145 (38 * S 33 0 + 1) 36 v) 145 (38 * S 33 0 + 37) (-1)) 142 18 (S 33 0 + 1)) := by
  obtain ⟨g1, g2, g3, g4, g5, g6, g7, g8, g9, g10, g11, g12, g13, g14, g15, g16⟩ := h
  have n1 := hH.np
  have n2 := hH.ng
  have n3 := hH.nd
  have il := hH.ill0 (S 33 0) (by omega) (by omega)
  have w1 : wz (S 33 0 + 1) = S 33 0 + 1 := wz_id (by omega) (by omega)
  have w2 : wz (-1) = -1 := rfl
  clear hH
  refine ⟨?_, ?_, ?_, ?_, ?_, ?_, ?_, ?_, ?_, ?_, ?_, ?_, ?_, ?_, ?_, ?_⟩
  · clear g4 g5 g6 g7 g8 g9 g10 g11 g12 g13 g14 g15 g16; first | (simpa [su, flS, pk_po, pk_flm] using g1) | (simp only [su, flS, pk_po, pk_flm]; grind)
  · clear g4 g5 g6 g7 g8 g9 g10 g11 g12 g13 g14 g15 g16; first | (simpa [su, flS, pk_po, pk_flm] using g2) | (simp only [su, flS, pk_po, pk_flm]; grind)
  · clear g4 g5 g6 g7 g8 g9 g10 g11 g12 g13 g14 g15 g16; first | (simpa [su, flS, pk_po, pk_flm] using g3) | (simp only [su, flS, pk_po, pk_flm]; grind)
  · clear g5 g6 g7 g8 g9 g10 g11 g12 g13 g14 g15 g16; first | (simpa [su, flS, pk_po, pk_flm] using g4) | (simp only [su, flS, pk_po, pk_flm]; grind)
  · clear g4 g6 g7 g8 g9 g10 g11 g12 g13 g14 g15 g16; first | (simpa [su, flS, pk_po, pk_flm] using g5) | (simp only [su, flS, pk_po, pk_flm]; grind)
  · clear g4 g5 g7 g8 g9 g10 g11 g12 g13 g14 g15 g16; first | (simpa [su, flS, pk_po, pk_flm] using g6) | (simp only [su, flS, pk_po, pk_flm]; grind)
  · clear g4 g5 g6 g8 g9 g10 g11 g12 g13 g14 g15 g16; first | (simpa [su, flS, pk_po, pk_flm] using g7) | (simp only [su, flS, pk_po, pk_flm]; grind)
  · clear g4 g5 g6 g7 g9 g10 g11 g12 g13 g14 g15 g16; first | (simpa [su, flS, pk_po, pk_flm] using g8) | (simp only [su, flS, pk_po, pk_flm]; grind)
  · clear g4 g5 g6 g7 g8 g10 g11 g12 g13 g14 g15 g16; first | (simpa [su, flS, pk_po, pk_flm] using g9) | (simp only [su, flS, pk_po, pk_flm]; grind)
  · clear g4 g5 g6 g7 g8 g9 g11 g12 g13 g14 g15 g16; first | (simpa [su, flS, pk_po, pk_flm] using g10) | (simp only [su, flS, pk_po, pk_flm]; grind)
  · clear g4 g5 g6 g7 g8 g9 g10 g12 g13 g14 g15 g16; first | (simpa [su, flS, pk_po, pk_flm] using g11) | (simp only [su, flS, pk_po, pk_flm]; grind)
  · clear g4 g5 g6 g7 g8 g9 g10 g11 g13 g14 g15 g16; first | (simpa [su, flS, pk_po, pk_flm] using g12) | (simp only [su, flS, pk_po, pk_flm]; grind)
  · clear g4 g5 g6 g7 g8 g9 g10 g11 g12 g14 g15 g16; first | (simpa [su, flS, pk_po, pk_flm] using g13) | (simp only [su, flS, pk_po, pk_flm]; grind)
  · clear g4 g5 g6 g7 g8 g9 g10 g11 g12 g13 g15 g16; first | (simpa [su, flS, pk_po, pk_flm] using g14) | (simp only [su, flS, pk_po, pk_flm]; grind)
  · clear g4 g5 g6 g7 g8 g9 g10 g11 g12 g13 g14 g16; first | (simpa [su, flS, pk_po, pk_flm] using g15) | (simp only [su, flS, pk_po, pk_flm]; grind)
  · clear g4 g5 g6 g7 g8 g9 g10 g11 g12 g13 g14 g15; first | (simpa [su, flS, pk_po, pk_flm] using g16) | (simp only [su, flS, pk_po, pk_flm]; grind)
theorem RN.month {q m v : Int} (h : RN S M) (hH : nho S) (hq : 0 ≤ q ∧ q < S 33 0) (hm : 0 ≤ m ∧ m ≤ 35) (hv : wz v = v) : RN (su S 35 (36 * q + m) v) (po M 145 (38 * q + 1 + m) v) := by
  obtain ⟨g1, g2, g3, g4, g5, g6, g7, g8, g9, g10, g11, g12, g13, g14, g15, g16⟩ := h
  have n1 := hH.np
  have n2 := hH.ng
  have n3 := hH.nd
  clear hH
  refine ⟨?_, ?_, ?_, ?_, ?_, ?_, ?_, ?_, ?_, ?_, ?_, ?_, ?_, ?_, ?_, ?_⟩
  · clear g4 g5 g6 g7 g8 g9 g10 g11 g12 g13 g14 g15 g16; first | (simpa [su, flS, pk_po, pk_flm] using g1) | (simp only [su, flS, pk_po, pk_flm]; grind)
  · clear g4 g5 g6 g7 g8 g9 g10 g11 g12 g13 g14 g15 g16; first | (simpa [su, flS, pk_po, pk_flm] using g2) | (simp only [su, flS, pk_po, pk_flm]; grind)
  · clear g4 g5 g6 g7 g8 g9 g10 g11 g12 g13 g14 g15 g16; first | (simpa [su, flS, pk_po, pk_flm] using g3) | (simp only [su, flS, pk_po, pk_flm]; grind)
  · clear g5 g6 g7 g8 g9 g10 g11 g12 g13 g14 g15 g16; first | (simpa [su, flS, pk_po, pk_flm] using g4) | (simp only [su, flS, pk_po, pk_flm]; grind)
  · clear g4 g6 g7 g8 g9 g10 g11 g12 g13 g14 g15 g16; first | (simpa [su, flS, pk_po, pk_flm] using g5) | (simp only [su, flS, pk_po, pk_flm]; grind)
  · clear g4 g5 g7 g8 g9 g10 g11 g12 g13 g14 g15 g16; first | (simpa [su, flS, pk_po, pk_flm] using g6) | (simp only [su, flS, pk_po, pk_flm]; grind)
  · clear g4 g5 g6 g8 g9 g10 g11 g12 g13 g14 g15 g16; first | (simpa [su, flS, pk_po, pk_flm] using g7) | (simp only [su, flS, pk_po, pk_flm]; grind)
  · clear g4 g5 g6 g7 g9 g10 g11 g12 g13 g14 g15 g16; first | (simpa [su, flS, pk_po, pk_flm] using g8) | (simp only [su, flS, pk_po, pk_flm]; grind)
  · clear g4 g5 g6 g7 g8 g10 g11 g12 g13 g14 g15 g16; first | (simpa [su, flS, pk_po, pk_flm] using g9) | (simp only [su, flS, pk_po, pk_flm]; grind)
  · clear g4 g5 g6 g7 g8 g9 g11 g12 g13 g14 g15 g16; first | (simpa [su, flS, pk_po, pk_flm] using g10) | (simp only [su, flS, pk_po, pk_flm]; grind)
  · clear g4 g5 g6 g7 g8 g9 g10 g12 g13 g14 g15 g16; first | (simpa [su, flS, pk_po, pk_flm] using g11) | (simp only [su, flS, pk_po, pk_flm]; grind)
  · clear g4 g5 g6 g7 g8 g9 g10 g11 g13 g14 g15 g16; first | (simpa [su, flS, pk_po, pk_flm] using g12) | (simp only [su, flS, pk_po, pk_flm]; grind)
  · clear g4 g5 g6 g7 g8 g9 g10 g11 g12 g14 g15 g16; first | (simpa [su, flS, pk_po, pk_flm] using g13) | (simp only [su, flS, pk_po, pk_flm]; grind)
  · clear g4 g5 g6 g7 g8 g9 g10 g11 g12 g13 g15 g16; first | (simpa [su, flS, pk_po, pk_flm] using g14) | (simp only [su, flS, pk_po, pk_flm]; grind)
  · clear g4 g5 g6 g7 g8 g9 g10 g11 g12 g13 g14 g16; first | (simpa [su, flS, pk_po, pk_flm] using g15) | (simp only [su, flS, pk_po, pk_flm]; grind)
  · clear g4 g5 g6 g7 g8 g9 g10 g11 g12 g13 g14 g15; first | (simpa [su, flS, pk_po, pk_flm] using g16) | (simp only [su, flS, pk_po, pk_flm]; grind)
theorem RN.good {o w v : Int} (h : RN S M) (hH : nho S) (hp : S 33 1 ≤ 11) (ho : 0 ≤ o ∧ o < S 33 0) (hw : wz w = w) (hv : wz v = v) : RN (su (su (flS (su (su (su S 41 (S 33 1) o) 42 (S 33 1) w) 43 (S 33 1) v) 44 (4 * S 33 1) 4 0) 44 (4 * S 33 1 + o) 12) 33 1 (S 33 1 + 1)) (po (po (po (po (po (po (po (flm M 146 (9 * S 33 1 + 5) 4 0) 146 (9 * S 33 1) o) 146 (9 * S 33 1 + 1) w) 146 (9 * S 33 1 + 2) v) 146 (9 * S 33 1 + 3) 10000) 146 (9 * S 33 1 + 4) 10000) 146 (9 * S 33 1 + 5 + o) 12) 142 19 (S 33 1 + 1)) := by
  obtain ⟨g1, g2, g3, g4, g5, g6, g7, g8, g9, g10, g11, g12, g13, g14, g15, g16⟩ := h
  have n1 := hH.np
  have n2 := hH.ng
  have n3 := hH.nd
  have il := hH.cl0 (S 33 1) (by omega) (by omega)
  have w1 : wz (S 33 1 + 1) = S 33 1 + 1 := wz_id (by omega) (by omega)
  have w2 : wz 10000 = 10000 := rfl
  have w3 : wz 12 = 12 := rfl
  have w4 : wz o = o := wz_id (by omega) (by omega)
  have w5 := wz_0
  clear hH
  refine ⟨?_, ?_, ?_, ?_, ?_, ?_, ?_, ?_, ?_, ?_, ?_, ?_, ?_, ?_, ?_, ?_⟩
  · clear g4 g5 g6 g7 g8 g9 g10 g11 g12 g13 g14 g15 g16; first | (simpa [su, flS, pk_po, pk_flm] using g1) | (simp only [su, flS, pk_po, pk_flm]; grind)
  · clear g4 g5 g6 g7 g8 g9 g10 g11 g12 g13 g14 g15 g16; first | (simpa [su, flS, pk_po, pk_flm] using g2) | (simp only [su, flS, pk_po, pk_flm]; grind)
  · clear g4 g5 g6 g7 g8 g9 g10 g11 g12 g13 g14 g15 g16; first | (simpa [su, flS, pk_po, pk_flm] using g3) | (simp only [su, flS, pk_po, pk_flm]; grind)
  · clear g5 g6 g7 g8 g9 g10 g11 g12 g13 g14 g15 g16; first | (simpa [su, flS, pk_po, pk_flm] using g4) | (simp only [su, flS, pk_po, pk_flm]; grind)
  · clear g4 g6 g7 g8 g9 g10 g11 g12 g13 g14 g15 g16; first | (simpa [su, flS, pk_po, pk_flm] using g5) | (simp only [su, flS, pk_po, pk_flm]; grind)
  · clear g4 g5 g7 g8 g9 g10 g11 g12 g13 g14 g15 g16; first | (simpa [su, flS, pk_po, pk_flm] using g6) | (simp only [su, flS, pk_po, pk_flm]; grind)
  · clear g4 g5 g6 g8 g9 g10 g11 g12 g13 g14 g15 g16; first | (simpa [su, flS, pk_po, pk_flm] using g7) | (simp only [su, flS, pk_po, pk_flm]; grind)
  · clear g4 g5 g6 g7 g9 g10 g11 g12 g13 g14 g15 g16; first | (simpa [su, flS, pk_po, pk_flm] using g8) | (simp only [su, flS, pk_po, pk_flm]; grind)
  · clear g4 g5 g6 g7 g8 g10 g11 g12 g13 g14 g15 g16; first | (simpa [su, flS, pk_po, pk_flm] using g9) | (simp only [su, flS, pk_po, pk_flm]; grind)
  · clear g4 g5 g6 g7 g8 g9 g11 g12 g13 g14 g15 g16; first | (simpa [su, flS, pk_po, pk_flm] using g10) | (simp only [su, flS, pk_po, pk_flm]; grind)
  · clear g4 g5 g6 g7 g8 g9 g10 g12 g13 g14 g15 g16; first | (simpa [su, flS, pk_po, pk_flm] using g11) | (simp only [su, flS, pk_po, pk_flm]; grind)
  · clear g4 g5 g6 g7 g8 g9 g10 g11 g13 g14 g15 g16; first | (simpa [su, flS, pk_po, pk_flm] using g12) | (simp only [su, flS, pk_po, pk_flm]; grind)
  · clear g4 g5 g6 g7 g8 g9 g10 g11 g12 g14 g15 g16; first | (simpa [su, flS, pk_po, pk_flm] using g13) | (simp only [su, flS, pk_po, pk_flm]; grind)
  · clear g4 g5 g6 g7 g8 g9 g10 g11 g12 g13 g15 g16; first | (simpa [su, flS, pk_po, pk_flm] using g14) | (simp only [su, flS, pk_po, pk_flm]; grind)
  · clear g4 g5 g6 g7 g8 g9 g10 g11 g12 g13 g14 g16; first | (simpa [su, flS, pk_po, pk_flm] using g15) | (simp only [su, flS, pk_po, pk_flm]; grind)
  · clear g4 g5 g6 g7 g8 g9 g10 g11 g12 g13 g14 g15; first | (simpa [su, flS, pk_po, pk_flm] using g16) | (simp only [su, flS, pk_po, pk_flm]; grind)
theorem RN.part {g q v : Int} (h : RN S M) (hH : nho S) (hg : 0 ≤ g ∧ g < S 33 1) (hq : 0 ≤ q ∧ q < S 33 0) (ho : 0 ≤ S 41 g ∧ S 41 g < S 33 0) (hv : wz v = v) (hy : wz (S 44 (4 * g + S 41 g) - v) = S 44 (4 * g + S 41 g) - v) : RN (su (su S 44 (4 * g + q) v) 44 (4 * g + S 41 g) (S 44 (4 * g + S 41 g) - v)) (po (po M 146 (9 * g + 5 + q) v) 146 (9 * g + 5 + S 41 g) (S 44 (4 * g + S 41 g) - v)) := by
  obtain ⟨g1, g2, g3, g4, g5, g6, g7, g8, g9, g10, g11, g12, g13, g14, g15, g16⟩ := h
  have n1 := hH.np
  have n2 := hH.ng
  have n3 := hH.nd
  clear hH
  refine ⟨?_, ?_, ?_, ?_, ?_, ?_, ?_, ?_, ?_, ?_, ?_, ?_, ?_, ?_, ?_, ?_⟩
  · clear g4 g5 g6 g7 g8 g9 g10 g11 g12 g13 g14 g15 g16; first | (simpa [su, flS, pk_po, pk_flm] using g1) | (simp only [su, flS, pk_po, pk_flm]; grind)
  · clear g4 g5 g6 g7 g8 g9 g10 g11 g12 g13 g14 g15 g16; first | (simpa [su, flS, pk_po, pk_flm] using g2) | (simp only [su, flS, pk_po, pk_flm]; grind)
  · clear g4 g5 g6 g7 g8 g9 g10 g11 g12 g13 g14 g15 g16; first | (simpa [su, flS, pk_po, pk_flm] using g3) | (simp only [su, flS, pk_po, pk_flm]; grind)
  · clear g5 g6 g7 g8 g9 g10 g11 g12 g13 g14 g15 g16; first | (simpa [su, flS, pk_po, pk_flm] using g4) | (simp only [su, flS, pk_po, pk_flm]; grind)
  · clear g4 g6 g7 g8 g9 g10 g11 g12 g13 g14 g15 g16; first | (simpa [su, flS, pk_po, pk_flm] using g5) | (simp only [su, flS, pk_po, pk_flm]; grind)
  · clear g4 g5 g7 g8 g9 g10 g11 g12 g13 g14 g15 g16; first | (simpa [su, flS, pk_po, pk_flm] using g6) | (simp only [su, flS, pk_po, pk_flm]; grind)
  · clear g4 g5 g6 g8 g9 g10 g11 g12 g13 g14 g15 g16; first | (simpa [su, flS, pk_po, pk_flm] using g7) | (simp only [su, flS, pk_po, pk_flm]; grind)
  · clear g4 g5 g6 g7 g9 g10 g11 g12 g13 g14 g15 g16; first | (simpa [su, flS, pk_po, pk_flm] using g8) | (simp only [su, flS, pk_po, pk_flm]; grind)
  · clear g4 g5 g6 g7 g8 g10 g11 g12 g13 g14 g15 g16; first | (simpa [su, flS, pk_po, pk_flm] using g9) | (simp only [su, flS, pk_po, pk_flm]; grind)
  · clear g4 g5 g6 g7 g8 g9 g11 g12 g13 g14 g15 g16; first | (simpa [su, flS, pk_po, pk_flm] using g10) | (simp only [su, flS, pk_po, pk_flm]; grind)
  · clear g4 g5 g6 g7 g8 g9 g10 g12 g13 g14 g15 g16; first | (simpa [su, flS, pk_po, pk_flm] using g11) | (simp only [su, flS, pk_po, pk_flm]; grind)
  · clear g4 g5 g6 g7 g8 g9 g10 g11 g13 g14 g15 g16; first | (simpa [su, flS, pk_po, pk_flm] using g12) | (simp only [su, flS, pk_po, pk_flm]; grind)
  · clear g4 g5 g6 g7 g8 g9 g10 g11 g12 g14 g15 g16; first | (simpa [su, flS, pk_po, pk_flm] using g13) | (simp only [su, flS, pk_po, pk_flm]; grind)
  · clear g4 g5 g6 g7 g8 g9 g10 g11 g12 g13 g15 g16; first | (simpa [su, flS, pk_po, pk_flm] using g14) | (simp only [su, flS, pk_po, pk_flm]; grind)
  · clear g4 g5 g6 g7 g8 g9 g10 g11 g12 g13 g14 g16; first | (simpa [su, flS, pk_po, pk_flm] using g15) | (simp only [su, flS, pk_po, pk_flm]; grind)
  · clear g4 g5 g6 g7 g8 g9 g10 g11 g12 g13 g14 g15; first | (simpa [su, flS, pk_po, pk_flm] using g16) | (simp only [su, flS, pk_po, pk_flm]; grind)
theorem RN.claim {g u v : Int} (h : RN S M) (hH : nho S) (hg : 0 ≤ g ∧ g < S 33 1) (hu : wz u = u) (hv : wz v = v) : RN (su (su S 57 g u) 58 g v) (po (po M 146 (9 * g + 3) u) 146 (9 * g + 4) v) := by
  obtain ⟨g1, g2, g3, g4, g5, g6, g7, g8, g9, g10, g11, g12, g13, g14, g15, g16⟩ := h
  have n1 := hH.np
  have n2 := hH.ng
  have n3 := hH.nd
  clear hH
  refine ⟨?_, ?_, ?_, ?_, ?_, ?_, ?_, ?_, ?_, ?_, ?_, ?_, ?_, ?_, ?_, ?_⟩
  · clear g4 g5 g6 g7 g8 g9 g10 g11 g12 g13 g14 g15 g16; first | (simpa [su, flS, pk_po, pk_flm] using g1) | (simp only [su, flS, pk_po, pk_flm]; grind)
  · clear g4 g5 g6 g7 g8 g9 g10 g11 g12 g13 g14 g15 g16; first | (simpa [su, flS, pk_po, pk_flm] using g2) | (simp only [su, flS, pk_po, pk_flm]; grind)
  · clear g4 g5 g6 g7 g8 g9 g10 g11 g12 g13 g14 g15 g16; first | (simpa [su, flS, pk_po, pk_flm] using g3) | (simp only [su, flS, pk_po, pk_flm]; grind)
  · clear g5 g6 g7 g8 g9 g10 g11 g12 g13 g14 g15 g16; first | (simpa [su, flS, pk_po, pk_flm] using g4) | (simp only [su, flS, pk_po, pk_flm]; grind)
  · clear g4 g6 g7 g8 g9 g10 g11 g12 g13 g14 g15 g16; first | (simpa [su, flS, pk_po, pk_flm] using g5) | (simp only [su, flS, pk_po, pk_flm]; grind)
  · clear g4 g5 g7 g8 g9 g10 g11 g12 g13 g14 g15 g16; first | (simpa [su, flS, pk_po, pk_flm] using g6) | (simp only [su, flS, pk_po, pk_flm]; grind)
  · clear g4 g5 g6 g8 g9 g10 g11 g12 g13 g14 g15 g16; first | (simpa [su, flS, pk_po, pk_flm] using g7) | (simp only [su, flS, pk_po, pk_flm]; grind)
  · clear g4 g5 g6 g7 g9 g10 g11 g12 g13 g14 g15 g16; first | (simpa [su, flS, pk_po, pk_flm] using g8) | (simp only [su, flS, pk_po, pk_flm]; grind)
  · clear g4 g5 g6 g7 g8 g10 g11 g12 g13 g14 g15 g16; first | (simpa [su, flS, pk_po, pk_flm] using g9) | (simp only [su, flS, pk_po, pk_flm]; grind)
  · clear g4 g5 g6 g7 g8 g9 g11 g12 g13 g14 g15 g16; first | (simpa [su, flS, pk_po, pk_flm] using g10) | (simp only [su, flS, pk_po, pk_flm]; grind)
  · clear g4 g5 g6 g7 g8 g9 g10 g12 g13 g14 g15 g16; first | (simpa [su, flS, pk_po, pk_flm] using g11) | (simp only [su, flS, pk_po, pk_flm]; grind)
  · clear g4 g5 g6 g7 g8 g9 g10 g11 g13 g14 g15 g16; first | (simpa [su, flS, pk_po, pk_flm] using g12) | (simp only [su, flS, pk_po, pk_flm]; grind)
  · clear g4 g5 g6 g7 g8 g9 g10 g11 g12 g14 g15 g16; first | (simpa [su, flS, pk_po, pk_flm] using g13) | (simp only [su, flS, pk_po, pk_flm]; grind)
  · clear g4 g5 g6 g7 g8 g9 g10 g11 g12 g13 g15 g16; first | (simpa [su, flS, pk_po, pk_flm] using g14) | (simp only [su, flS, pk_po, pk_flm]; grind)
  · clear g4 g5 g6 g7 g8 g9 g10 g11 g12 g13 g14 g16; first | (simpa [su, flS, pk_po, pk_flm] using g15) | (simp only [su, flS, pk_po, pk_flm]; grind)
  · clear g4 g5 g6 g7 g8 g9 g10 g11 g12 g13 g14 g15; first | (simpa [su, flS, pk_po, pk_flm] using g16) | (simp only [su, flS, pk_po, pk_flm]; grind)
theorem RN.debt {q u v : Int} (h : RN S M) (hH : nho S) (hp : S 33 2 ≤ 5) (hq : wz q = q) (hu : wz u = u) (hv : wz v = v) : RN (su (su (su (su S 59 (S 33 2) q) 60 (S 33 2) u) 61 (S 33 2) v) 33 2 (S 33 2 + 1)) (po (po (po (po M 147 (3 * S 33 2) q) 147 (3 * S 33 2 + 1) u) 147 (3 * S 33 2 + 2) v) 142 20 (S 33 2 + 1)) := by
  obtain ⟨g1, g2, g3, g4, g5, g6, g7, g8, g9, g10, g11, g12, g13, g14, g15, g16⟩ := h
  have n1 := hH.np
  have n2 := hH.ng
  have n3 := hH.nd
  have w1 : wz (S 33 2 + 1) = S 33 2 + 1 := wz_id (by omega) (by omega)
  clear hH
  refine ⟨?_, ?_, ?_, ?_, ?_, ?_, ?_, ?_, ?_, ?_, ?_, ?_, ?_, ?_, ?_, ?_⟩
  · clear g4 g5 g6 g7 g8 g9 g10 g11 g12 g13 g14 g15 g16; first | (simpa [su, flS, pk_po, pk_flm] using g1) | (simp only [su, flS, pk_po, pk_flm]; grind)
  · clear g4 g5 g6 g7 g8 g9 g10 g11 g12 g13 g14 g15 g16; first | (simpa [su, flS, pk_po, pk_flm] using g2) | (simp only [su, flS, pk_po, pk_flm]; grind)
  · clear g4 g5 g6 g7 g8 g9 g10 g11 g12 g13 g14 g15 g16; first | (simpa [su, flS, pk_po, pk_flm] using g3) | (simp only [su, flS, pk_po, pk_flm]; grind)
  · clear g5 g6 g7 g8 g9 g10 g11 g12 g13 g14 g15 g16; first | (simpa [su, flS, pk_po, pk_flm] using g4) | (simp only [su, flS, pk_po, pk_flm]; grind)
  · clear g4 g6 g7 g8 g9 g10 g11 g12 g13 g14 g15 g16; first | (simpa [su, flS, pk_po, pk_flm] using g5) | (simp only [su, flS, pk_po, pk_flm]; grind)
  · clear g4 g5 g7 g8 g9 g10 g11 g12 g13 g14 g15 g16; first | (simpa [su, flS, pk_po, pk_flm] using g6) | (simp only [su, flS, pk_po, pk_flm]; grind)
  · clear g4 g5 g6 g8 g9 g10 g11 g12 g13 g14 g15 g16; first | (simpa [su, flS, pk_po, pk_flm] using g7) | (simp only [su, flS, pk_po, pk_flm]; grind)
  · clear g4 g5 g6 g7 g9 g10 g11 g12 g13 g14 g15 g16; first | (simpa [su, flS, pk_po, pk_flm] using g8) | (simp only [su, flS, pk_po, pk_flm]; grind)
  · clear g4 g5 g6 g7 g8 g10 g11 g12 g13 g14 g15 g16; first | (simpa [su, flS, pk_po, pk_flm] using g9) | (simp only [su, flS, pk_po, pk_flm]; grind)
  · clear g4 g5 g6 g7 g8 g9 g11 g12 g13 g14 g15 g16; first | (simpa [su, flS, pk_po, pk_flm] using g10) | (simp only [su, flS, pk_po, pk_flm]; grind)
  · clear g4 g5 g6 g7 g8 g9 g10 g12 g13 g14 g15 g16; first | (simpa [su, flS, pk_po, pk_flm] using g11) | (simp only [su, flS, pk_po, pk_flm]; grind)
  · clear g4 g5 g6 g7 g8 g9 g10 g11 g13 g14 g15 g16; first | (simpa [su, flS, pk_po, pk_flm] using g12) | (simp only [su, flS, pk_po, pk_flm]; grind)
  · clear g4 g5 g6 g7 g8 g9 g10 g11 g12 g14 g15 g16; first | (simpa [su, flS, pk_po, pk_flm] using g13) | (simp only [su, flS, pk_po, pk_flm]; grind)
  · clear g4 g5 g6 g7 g8 g9 g10 g11 g12 g13 g15 g16; first | (simpa [su, flS, pk_po, pk_flm] using g14) | (simp only [su, flS, pk_po, pk_flm]; grind)
  · clear g4 g5 g6 g7 g8 g9 g10 g11 g12 g13 g14 g16; first | (simpa [su, flS, pk_po, pk_flm] using g15) | (simp only [su, flS, pk_po, pk_flm]; grind)
  · clear g4 g5 g6 g7 g8 g9 g10 g11 g12 g13 g14 g15; first | (simpa [su, flS, pk_po, pk_flm] using g16) | (simp only [su, flS, pk_po, pk_flm]; grind)
theorem RN.illn {q u : Int} (h : RN S M) (hH : nho S) (hq : 0 ≤ q ∧ q < S 33 0) (hu : wz u = u) (hu2 : u ≤ 9999) : RN (su S 40 q u) (po M 145 (38 * q + 37) u) := by
  obtain ⟨g1, g2, g3, g4, g5, g6, g7, g8, g9, g10, g11, g12, g13, g14, g15, g16⟩ := h
  have n1 := hH.np
  have n2 := hH.ng
  have n3 := hH.nd
  clear hH
  refine ⟨?_, ?_, ?_, ?_, ?_, ?_, ?_, ?_, ?_, ?_, ?_, ?_, ?_, ?_, ?_, ?_⟩
  · clear g4 g5 g6 g7 g8 g9 g10 g11 g12 g13 g14 g15 g16; first | (simpa [su, flS, pk_po, pk_flm] using g1) | (simp only [su, flS, pk_po, pk_flm]; grind)
  · clear g4 g5 g6 g7 g8 g9 g10 g11 g12 g13 g14 g15 g16; first | (simpa [su, flS, pk_po, pk_flm] using g2) | (simp only [su, flS, pk_po, pk_flm]; grind)
  · clear g4 g5 g6 g7 g8 g9 g10 g11 g12 g13 g14 g15 g16; first | (simpa [su, flS, pk_po, pk_flm] using g3) | (simp only [su, flS, pk_po, pk_flm]; grind)
  · clear g5 g6 g7 g8 g9 g10 g11 g12 g13 g14 g15 g16; first | (simpa [su, flS, pk_po, pk_flm] using g4) | (simp only [su, flS, pk_po, pk_flm]; grind)
  · clear g4 g6 g7 g8 g9 g10 g11 g12 g13 g14 g15 g16; first | (simpa [su, flS, pk_po, pk_flm] using g5) | (simp only [su, flS, pk_po, pk_flm]; grind)
  · clear g4 g5 g7 g8 g9 g10 g11 g12 g13 g14 g15 g16; first | (simpa [su, flS, pk_po, pk_flm] using g6) | (simp only [su, flS, pk_po, pk_flm]; grind)
  · clear g4 g5 g6 g8 g9 g10 g11 g12 g13 g14 g15 g16; first | (simpa [su, flS, pk_po, pk_flm] using g7) | (simp only [su, flS, pk_po, pk_flm]; grind)
  · clear g4 g5 g6 g7 g9 g10 g11 g12 g13 g14 g15 g16; first | (simpa [su, flS, pk_po, pk_flm] using g8) | (simp only [su, flS, pk_po, pk_flm]; grind)
  · clear g4 g5 g6 g7 g8 g10 g11 g12 g13 g14 g15 g16; first | (simpa [su, flS, pk_po, pk_flm] using g9) | (simp only [su, flS, pk_po, pk_flm]; grind)
  · clear g4 g5 g6 g7 g8 g9 g11 g12 g13 g14 g15 g16; first | (simpa [su, flS, pk_po, pk_flm] using g10) | (simp only [su, flS, pk_po, pk_flm]; grind)
  · clear g4 g5 g6 g7 g8 g9 g10 g12 g13 g14 g15 g16; first | (simpa [su, flS, pk_po, pk_flm] using g11) | (simp only [su, flS, pk_po, pk_flm]; grind)
  · clear g4 g5 g6 g7 g8 g9 g10 g11 g13 g14 g15 g16; first | (simpa [su, flS, pk_po, pk_flm] using g12) | (simp only [su, flS, pk_po, pk_flm]; grind)
  · clear g4 g5 g6 g7 g8 g9 g10 g11 g12 g14 g15 g16; first | (simpa [su, flS, pk_po, pk_flm] using g13) | (simp only [su, flS, pk_po, pk_flm]; grind)
  · clear g4 g5 g6 g7 g8 g9 g10 g11 g12 g13 g15 g16; first | (simpa [su, flS, pk_po, pk_flm] using g14) | (simp only [su, flS, pk_po, pk_flm]; grind)
  · clear g4 g5 g6 g7 g8 g9 g10 g11 g12 g13 g14 g16; first | (simpa [su, flS, pk_po, pk_flm] using g15) | (simp only [su, flS, pk_po, pk_flm]; grind)
  · clear g4 g5 g6 g7 g8 g9 g10 g11 g12 g13 g14 g15; first | (simpa [su, flS, pk_po, pk_flm] using g16) | (simp only [su, flS, pk_po, pk_flm]; grind)
theorem RN.feen {q u : Int} (h : RN S M) (hH : nho S) (hu : wz u = u) : RN (su S 62 q u) (po M 148 q u) := by
  obtain ⟨g1, g2, g3, g4, g5, g6, g7, g8, g9, g10, g11, g12, g13, g14, g15, g16⟩ := h
  have n1 := hH.np
  have n2 := hH.ng
  have n3 := hH.nd
  clear hH
  refine ⟨?_, ?_, ?_, ?_, ?_, ?_, ?_, ?_, ?_, ?_, ?_, ?_, ?_, ?_, ?_, ?_⟩
  · clear g4 g5 g6 g7 g8 g9 g10 g11 g12 g13 g14 g15 g16; first | (simpa [su, flS, pk_po, pk_flm] using g1) | (simp only [su, flS, pk_po, pk_flm]; grind)
  · clear g4 g5 g6 g7 g8 g9 g10 g11 g12 g13 g14 g15 g16; first | (simpa [su, flS, pk_po, pk_flm] using g2) | (simp only [su, flS, pk_po, pk_flm]; grind)
  · clear g4 g5 g6 g7 g8 g9 g10 g11 g12 g13 g14 g15 g16; first | (simpa [su, flS, pk_po, pk_flm] using g3) | (simp only [su, flS, pk_po, pk_flm]; grind)
  · clear g5 g6 g7 g8 g9 g10 g11 g12 g13 g14 g15 g16; first | (simpa [su, flS, pk_po, pk_flm] using g4) | (simp only [su, flS, pk_po, pk_flm]; grind)
  · clear g4 g6 g7 g8 g9 g10 g11 g12 g13 g14 g15 g16; first | (simpa [su, flS, pk_po, pk_flm] using g5) | (simp only [su, flS, pk_po, pk_flm]; grind)
  · clear g4 g5 g7 g8 g9 g10 g11 g12 g13 g14 g15 g16; first | (simpa [su, flS, pk_po, pk_flm] using g6) | (simp only [su, flS, pk_po, pk_flm]; grind)
  · clear g4 g5 g6 g8 g9 g10 g11 g12 g13 g14 g15 g16; first | (simpa [su, flS, pk_po, pk_flm] using g7) | (simp only [su, flS, pk_po, pk_flm]; grind)
  · clear g4 g5 g6 g7 g9 g10 g11 g12 g13 g14 g15 g16; first | (simpa [su, flS, pk_po, pk_flm] using g8) | (simp only [su, flS, pk_po, pk_flm]; grind)
  · clear g4 g5 g6 g7 g8 g10 g11 g12 g13 g14 g15 g16; first | (simpa [su, flS, pk_po, pk_flm] using g9) | (simp only [su, flS, pk_po, pk_flm]; grind)
  · clear g4 g5 g6 g7 g8 g9 g11 g12 g13 g14 g15 g16; first | (simpa [su, flS, pk_po, pk_flm] using g10) | (simp only [su, flS, pk_po, pk_flm]; grind)
  · clear g4 g5 g6 g7 g8 g9 g10 g12 g13 g14 g15 g16; first | (simpa [su, flS, pk_po, pk_flm] using g11) | (simp only [su, flS, pk_po, pk_flm]; grind)
  · clear g4 g5 g6 g7 g8 g9 g10 g11 g13 g14 g15 g16; first | (simpa [su, flS, pk_po, pk_flm] using g12) | (simp only [su, flS, pk_po, pk_flm]; grind)
  · clear g4 g5 g6 g7 g8 g9 g10 g11 g12 g14 g15 g16; first | (simpa [su, flS, pk_po, pk_flm] using g13) | (simp only [su, flS, pk_po, pk_flm]; grind)
  · clear g4 g5 g6 g7 g8 g9 g10 g11 g12 g13 g15 g16; first | (simpa [su, flS, pk_po, pk_flm] using g14) | (simp only [su, flS, pk_po, pk_flm]; grind)
  · clear g4 g5 g6 g7 g8 g9 g10 g11 g12 g13 g14 g16; first | (simpa [su, flS, pk_po, pk_flm] using g15) | (simp only [su, flS, pk_po, pk_flm]; grind)
  · clear g4 g5 g6 g7 g8 g9 g10 g11 g12 g13 g14 g15; first | (simpa [su, flS, pk_po, pk_flm] using g16) | (simp only [su, flS, pk_po, pk_flm]; grind)
end R76
