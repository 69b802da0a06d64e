/-! the bounds after a change of one number -/
theorem oI_mk {Bd : Int} {A : Nat → Int} (hB : 0 ≤ Bd ∧ Bd ≤ 100000000) (c0 : 0 ≤ A 0 ∧ A 0 ≤ 6) (c1 : 0 ≤ A 1 ∧ A 1 ≤ 20) (c2 : 0 ≤ A 2 ∧ A 2 ≤ 9999) (cw : ∀ wx, wx < 4 → 0 ≤ A (3 + wx) ∧ A (3 + wx) ≤ Bd) (cv : ∀ wx, wx < 4 → 0 ≤ A (7 + wx) ∧ A (7 + wx) ≤ Bd) (cp : ∀ ix, ix < 6 → 0 ≤ A (11 + ix) ∧ A (11 + ix) ≤ 20)
  (cl : ∀ lx, lx < nLn A → ∀ kx, kx < 8 → 0 ≤ A (17 + 8 * lx + kx) ∧ (kx = 0 → A (17 + 8 * lx + kx) ≤ 5) ∧ (kx = 1 → A (17 + 8 * lx + kx) < A 0) ∧ (kx = 2 → A (17 + 8 * lx + kx) ≤ 5) ∧ (kx = 3 → 1 ≤ A (17 + 8 * lx + kx) ∧ A (17 + 8 * lx + kx) ≤ 30) ∧ (kx = 4 → A (17 + 8 * lx + kx) ≤ 30) ∧ (kx = 5 → A (17 + 8 * lx + kx) ≤ 20000) ∧ (6 ≤ kx → A (17 + 8 * lx + kx) ≤ Bd))
  (ce : ∀ ex, ex < nEd A → (0 ≤ A (177 + 813 * ex) ∧ A (177 + 813 * ex) ≤ 3) ∧ (1 ≤ A (178 + 813 * ex) ∧ A (178 + 813 * ex) ≤ 99) ∧ (-7 ≤ A (179 + 813 * ex) ∧ A (179 + 813 * ex) ≤ 5))
  (cc : ∀ ex, ex < nEd A → ∀ ix, ix < 6 → (0 ≤ A (180 + 813 * ex + 3 * ix) ∧ A (180 + 813 * ex + 3 * ix) ≤ 30) ∧ (-Bd ≤ A (181 + 813 * ex + 3 * ix) ∧ A (181 + 813 * ex + 3 * ix) ≤ Bd) ∧ (-Bd ≤ A (182 + 813 * ex + 3 * ix) ∧ A (182 + 813 * ex + 3 * ix) ≤ Bd))
  (cb : ∀ ex, ex < nEd A → ∀ jx, 1 ≤ jx → jx ≤ nBr A ex → ∀ kx, kx < 8 → (kx = 0 → 1 ≤ A (190 + 813 * ex + 8 * jx + kx) ∧ A (190 + 813 * ex + 8 * jx + kx) ≤ Bd) ∧ (kx = 1 → 0 ≤ A (190 + 813 * ex + 8 * jx + kx) ∧ A (190 + 813 * ex + 8 * jx + kx) ≤ Bd) ∧ (kx = 2 → 1 ≤ A (190 + 813 * ex + 8 * jx + kx) ∧ A (190 + 813 * ex + 8 * jx + kx) ≤ 9) ∧ (kx = 3 → A (190 + 813 * ex + 8 * jx + kx) = 0 ∨ (200 ≤ A (190 + 813 * ex + 8 * jx + kx) ∧ A (190 + 813 * ex + 8 * jx + kx) ≤ 2500)) ∧ (4 ≤ kx → 0 ≤ A (190 + 813 * ex + 8 * jx + kx) ∧ A (190 + 813 * ex + 8 * jx + kx) ≤ 4))
  (cq : ∃ pos : Int → Int → Int, ∀ ex, ex < nEd A → ∀ jx, 1 ≤ jx → jx ≤ nBr A ex → A (190 + 813 * ex + 8 * jx) ≤ A (3 + (A (177 + 813 * ex)).toNat) ∧ ∀ kx, jx < kx → kx ≤ nBr A ex → pos (A (177 + 813 * ex)) (A (190 + 813 * ex + 8 * jx)) < pos (A (177 + 813 * ex)) (A (190 + 813 * ex + 8 * kx))) : oI Bd A := by
  refine ⟨hB, c0, c1, c2, fun wx hw => ⟨cw wx hw, cv wx hw⟩, cp, fun lx hl => ?_, fun ex he => ⟨(ce ex he).1, (ce ex he).2.1, (ce ex he).2.2, cc ex he, fun jx j1 j2 => ?_⟩, cq⟩
  · have g0 := cl lx hl 0 (by omega)
    have g1 := cl lx hl 1 (by omega)
    have g2 := cl lx hl 2 (by omega)
    have g3 := cl lx hl 3 (by omega)
    have g4 := cl lx hl 4 (by omega)
    have g5 := cl lx hl 5 (by omega)
    have g6 := cl lx hl 6 (by omega)
    have g7 := cl lx hl 7 (by omega)
    rw [show 17 + 8 * lx + 0 = 17 + 8 * lx by omega] at g0
    rw [show 17 + 8 * lx + 1 = 18 + 8 * lx by omega] at g1
    rw [show 17 + 8 * lx + 2 = 19 + 8 * lx by omega] at g2
    rw [show 17 + 8 * lx + 3 = 20 + 8 * lx by omega] at g3
    rw [show 17 + 8 * lx + 4 = 21 + 8 * lx by omega] at g4
    rw [show 17 + 8 * lx + 5 = 22 + 8 * lx by omega] at g5
    rw [show 17 + 8 * lx + 6 = 23 + 8 * lx by omega] at g6
    rw [show 17 + 8 * lx + 7 = 24 + 8 * lx by omega] at g7
    exact ⟨⟨g0.1, g0.2.1 rfl⟩, ⟨g1.1, g1.2.2.1 rfl⟩, ⟨g2.1, g2.2.2.2.1 rfl⟩, g3.2.2.2.2.1 rfl, ⟨g4.1, g4.2.2.2.2.2.1 rfl⟩, ⟨g5.1, g5.2.2.2.2.2.2.1 rfl⟩, ⟨g6.1, g6.2.2.2.2.2.2.2 (by decide)⟩, ⟨g7.1, g7.2.2.2.2.2.2.2 (by decide)⟩⟩
  · have g0 := (cb ex he jx j1 j2 0 (by omega)).1 rfl
    have g1 := (cb ex he jx j1 j2 1 (by omega)).2.1 rfl
    have g2 := (cb ex he jx j1 j2 2 (by omega)).2.2.1 rfl
    have g3 := (cb ex he jx j1 j2 3 (by omega)).2.2.2.1 rfl
    rw [show 190 + 813 * ex + 8 * jx + 0 = 190 + 813 * ex + 8 * jx by omega] at g0
    rw [show 190 + 813 * ex + 8 * jx + 1 = 191 + 813 * ex + 8 * jx by omega] at g1
    rw [show 190 + 813 * ex + 8 * jx + 2 = 192 + 813 * ex + 8 * jx by omega] at g2
    rw [show 190 + 813 * ex + 8 * jx + 3 = 193 + 813 * ex + 8 * jx by omega] at g3
    refine ⟨g0, g1, g2, g3, fun ix hi => ?_⟩
    have g4 := (cb ex he jx j1 j2 (4 + ix) (by omega)).2.2.2.2 (by omega)
    rw [show 190 + 813 * ex + 8 * jx + (4 + ix) = 194 + 813 * ex + 8 * jx + ix by omega] at g4
    exact g4
/-- a loan's number -/
theorem oI_l {Bd : Int} {A : Nat → Int} (h : oI Bd A) {lx kx : Nat} (hl : lx < nLn A) (hk : kx < 8) : 0 ≤ A (17 + 8 * lx + kx) ∧ (kx = 0 → A (17 + 8 * lx + kx) ≤ 5) ∧ (kx = 1 → A (17 + 8 * lx + kx) < A 0) ∧ (kx = 2 → A (17 + 8 * lx + kx) ≤ 5) ∧ (kx = 3 → 1 ≤ A (17 + 8 * lx + kx) ∧ A (17 + 8 * lx + kx) ≤ 30) ∧ (kx = 4 → A (17 + 8 * lx + kx) ≤ 30) ∧ (kx = 5 → A (17 + 8 * lx + kx) ≤ 20000) ∧ (6 ≤ kx → A (17 + 8 * lx + kx) ≤ Bd) := by
  have g := h.2.2.2.2.2.2.1 lx hl
  rcases (show kx = 0 ∨ kx = 1 ∨ kx = 2 ∨ kx = 3 ∨ kx = 4 ∨ kx = 5 ∨ kx = 6 ∨ kx = 7 by omega) with rfl | rfl | rfl | rfl | rfl | rfl | rfl | rfl
  · rw [show 17 + 8 * lx + 0 = 17 + 8 * lx by omega]; omega
  · rw [show 17 + 8 * lx + 1 = 18 + 8 * lx by omega]; omega
  · rw [show 17 + 8 * lx + 2 = 19 + 8 * lx by omega]; omega
  · rw [show 17 + 8 * lx + 3 = 20 + 8 * lx by omega]; omega
  · rw [show 17 + 8 * lx + 4 = 21 + 8 * lx by omega]; omega
  · rw [show 17 + 8 * lx + 5 = 22 + 8 * lx by omega]; omega
  · rw [show 17 + 8 * lx + 6 = 23 + 8 * lx by omega]; omega
  · rw [show 17 + 8 * lx + 7 = 24 + 8 * lx by omega]; omega
/-- a bar's number -/
theorem oI_r {Bd : Int} {A : Nat → Int} (h : oI Bd A) {ex jx kx : Nat} (he : ex < nEd A) (j1 : 1 ≤ jx) (j2 : jx ≤ nBr A ex) (hk : kx < 8) : (kx = 0 → 1 ≤ A (190 + 813 * ex + 8 * jx + kx) ∧ A (190 + 813 * ex + 8 * jx + kx) ≤ Bd) ∧ (kx = 1 → 0 ≤ A (190 + 813 * ex + 8 * jx + kx) ∧ A (190 + 813 * ex + 8 * jx + kx) ≤ Bd) ∧ (kx = 2 → 1 ≤ A (190 + 813 * ex + 8 * jx + kx) ∧ A (190 + 813 * ex + 8 * jx + kx) ≤ 9) ∧ (kx = 3 → A (190 + 813 * ex + 8 * jx + kx) = 0 ∨ (200 ≤ A (190 + 813 * ex + 8 * jx + kx) ∧ A (190 + 813 * ex + 8 * jx + kx) ≤ 2500)) ∧ (4 ≤ kx → 0 ≤ A (190 + 813 * ex + 8 * jx + kx) ∧ A (190 + 813 * ex + 8 * jx + kx) ≤ 4) := by
  have g := (oI_b h he).1.2.2.2.2 jx j1 j2
  obtain ⟨g0, g1, g2, g3, g4⟩ := g
  rcases (show kx = 0 ∨ kx = 1 ∨ kx = 2 ∨ kx = 3 ∨ 4 ≤ kx by omega) with rfl | rfl | rfl | rfl | h4
  · rw [show 190 + 813 * ex + 8 * jx + 0 = 190 + 813 * ex + 8 * jx by omega]; omega
  · rw [show 190 + 813 * ex + 8 * jx + 1 = 191 + 813 * ex + 8 * jx by omega]; omega
  · rw [show 190 + 813 * ex + 8 * jx + 2 = 192 + 813 * ex + 8 * jx by omega]; omega
  · rw [show 190 + 813 * ex + 8 * jx + 3 = 193 + 813 * ex + 8 * jx by omega]; omega
  · have g5 := g4 (kx - 4) (by omega)
    rw [show 194 + 813 * ex + 8 * jx + (kx - 4) = 190 + 813 * ex + 8 * jx + kx by omega] at g5
    omega
