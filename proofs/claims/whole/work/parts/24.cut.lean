/-! changes of the flat row: what one edition's block says; cut, insert, loans -/
theorem oER_fr {σ σ2 : oM} {eC qx Bn : Nat} {A A2 : Nat → Int} (h : oER σ eC A qx Bn) (hB : Bn ≤ 99) (hs : ∀ x, eC ≤ x → x < eC + 13 → σ2 x = σ x) (hA : ∀ x, qx ≤ x → x < qx + 813 → A2 x = A x) : oER σ2 eC A2 qx Bn := by
  obtain ⟨h0, h1, h2, h3, h4⟩ := h
  refine ⟨?_, ?_, ?_, fun ix hi => ?_, fun jx j1 j2 => ?_⟩
  · rw [hs _ (by omega) (by omega), hA _ (by omega) (by omega)]
    exact h0
  · rw [hs _ (by omega) (by omega), hA _ (by omega) (by omega)]
    exact h1
  · rw [hs _ (by omega) (by omega)]
    exact h2
  · rw [hs _ (by omega) (by omega), hs _ (by omega) (by omega), hs _ (by omega) (by omega), hA _ (by omega) (by omega), hA _ (by omega) (by omega), hA _ (by omega) (by omega)]
    exact h3 ix hi
  · obtain ⟨g1, g2, g3, g4, g5⟩ := h4 jx j1 j2
    refine ⟨?_, ?_, ?_, ?_, fun ix hi => ?_⟩
    · rw [hs _ (by omega) (by omega), hA _ (by omega) (by omega)]
      exact g1
    · rw [hs _ (by omega) (by omega), hA _ (by omega) (by omega)]
      exact g2
    · rw [hs _ (by omega) (by omega), hA _ (by omega) (by omega)]
      exact g3
    · rw [hs _ (by omega) (by omega), hA _ (by omega) (by omega)]
      exact g4
    · rw [hs _ (by omega) (by omega), hA _ (by omega) (by omega)]
      exact g5 ix hi
/-- one edition's block changed, or one edition more -/
theorem oHR_ed {σ σ2 : oM} {hC eN : Nat} {A A2 : Nat → Int} (h : oHR σ hC A) (hN6 : nEd A ≤ 6) (hM20 : nLn A ≤ 20) (hB9 : ∀ ex, ex < nEd A → nBr A ex ≤ 99) (heN : eN < 6)
  (hA : ∀ x, 1 ≤ x → (x < 177 + 813 * eN ∨ 990 + 813 * eN ≤ x) → A2 x = A x) (h0 : nEd A2 = nEd A ∨ (nEd A2 = nEd A + 1 ∧ eN = nEd A)) (hs : ∀ x, hC < x → x < hC + 104 → (x < hC + 2 + 13 * eN ∨ hC + 15 + 13 * eN ≤ x) → σ2 x = σ x)
  (hs0 : σ2 hC 0 = ((nEd A2 : Nat) : Int)) (hs5 : σ2 hC 5 = σ hC 5) (hs7 : σ2 hC 7 = σ hC 7) (he : oER σ2 (hC + 2 + 13 * eN) A2 (177 + 813 * eN) (nBr A2 eN)) : oHR σ2 hC A2 := by
  obtain ⟨g0, g5, g7, gw, gp, gl, ge⟩ := h
  have eM : nLn A2 = nLn A := by
    unfold nLn
    rw [hA 1 (by omega) (by omega)]
  refine ⟨hs0, by rw [hs5, eM]; exact g5, by rw [hs7, hA 2 (by omega) (by omega)]; exact g7, fun wx hw => ?_, fun ix hi => ?_, fun lx hl => ?_, fun ex hx => ?_⟩
  · rw [hs _ (by omega) (by omega) (by omega), hs _ (by omega) (by omega) (by omega), hA _ (by omega) (by omega), hA _ (by omega) (by omega)]
    exact gw wx hw
  · rw [hs _ (by omega) (by omega) (by omega), hA _ (by omega) (by omega)]
    exact gp ix hi
  · rw [eM] at hl
    rw [hs _ (by omega) (by omega) (by omega), hA (17 + 8 * lx) (by omega) (by omega), hA (18 + 8 * lx) (by omega) (by omega), hA (19 + 8 * lx) (by omega) (by omega), hA (20 + 8 * lx) (by omega) (by omega), hA (21 + 8 * lx) (by omega) (by omega), hA (22 + 8 * lx) (by omega) (by omega), hA (23 + 8 * lx) (by omega) (by omega), hA (24 + 8 * lx) (by omega) (by omega)]
    exact gl lx hl
  · by_cases hc : ex = eN
    · rw [hc]
      exact he
    · have hx2 : ex < nEd A := by omega
      have eB : nBr A2 ex = nBr A ex := by
        unfold nBr
        rw [hA _ (by omega) (by omega)]
      rw [eB]
      exact oER_fr (ge ex hx2) (hB9 ex hx2) (fun x q1 q2 => hs x (by omega) (by omega) (by omega)) (fun x q1 q2 => hA x (by omega) (by omega))
theorem oIE_fr {Bd B2 : Int} {A A2 : Nat → Int} {ex : Nat} (h : oIE Bd A ex) (hB9 : nBr A ex ≤ 99) (hA : ∀ x, 177 + 813 * ex ≤ x → x < 990 + 813 * ex → A2 x = A x) (hb : Bd ≤ B2) : oIE B2 A2 ex := by
  obtain ⟨h0, h1, h2, h3, h4⟩ := h
  have eB : nBr A2 ex = nBr A ex := by
    unfold nBr
    rw [hA _ (by omega) (by omega)]
  refine ⟨?_, ?_, ?_, fun ix hi => ?_, fun jx j1 j2 => ?_⟩
  · rw [hA _ (by omega) (by omega)]
    exact h0
  · rw [hA _ (by omega) (by omega)]
    exact h1
  · rw [hA _ (by omega) (by omega)]
    exact h2
  · rw [hA _ (by omega) (by omega), hA _ (by omega) (by omega), hA _ (by omega) (by omega)]
    have := h3 ix hi
    omega
  · rw [eB] at j2
    obtain ⟨g1, g2, g3, g4, g5⟩ := h4 jx j1 j2
    refine ⟨?_, ?_, ?_, ?_, fun ix hi => ?_⟩
    · rw [hA _ (by omega) (by omega)]
      omega
    · rw [hA _ (by omega) (by omega)]
      omega
    · rw [hA _ (by omega) (by omega)]
      exact g3
    · rw [hA _ (by omega) (by omega)]
      exact g4
    · rw [hA _ (by omega) (by omega)]
      exact g5 ix hi
/-- the bounds, one edition's block and the greatest origins changed, or one edition more -/
theorem oI_ed {Bd B2 : Int} {eN : Nat} {A A2 : Nat → Int} (h : oI Bd A) (hb : Bd ≤ B2) (hb2 : B2 ≤ 100000000) (heN : eN < 6)
  (hA : ∀ x, 1 ≤ x → (x < 3 ∨ 7 ≤ x) → (x < 177 + 813 * eN ∨ 990 + 813 * eN ≤ x) → A2 x = A x) (h0 : (A2 0 = A 0 ∧ eN < nEd A) ∨ (A2 0 = A 0 + 1 ∧ eN = nEd A)) (hw : ∀ wx, wx < 4 → 0 ≤ A2 (3 + wx) ∧ A2 (3 + wx) ≤ B2) (he : oIE B2 A2 eN)
  (hp : ∃ pos : Int → Int → Int, ∀ ex, ex < nEd A2 → ∀ jx, 1 ≤ jx → jx ≤ nBr A2 ex → A2 (190 + 813 * ex + 8 * jx) ≤ A2 (3 + (A2 (177 + 813 * ex)).toNat) ∧ ∀ kx, jx < kx → kx ≤ nBr A2 ex → pos (A2 (177 + 813 * ex)) (A2 (190 + 813 * ex + 8 * jx)) < pos (A2 (177 + 813 * ex)) (A2 (190 + 813 * ex + 8 * kx))) : oI B2 A2 := by
  have hn := oI_n h
  have h00 := h.2.1
  have eM : nLn A2 = nLn A := by
    unfold nLn
    rw [hA 1 (by omega) (by omega) (by omega)]
  have hE : nEd A2 = nEd A ∨ (nEd A2 = nEd A + 1 ∧ eN = nEd A) := by
    have q1 : nEd A2 = (A2 0).toNat := rfl
    have q2 : nEd A = (A 0).toNat := rfl
    omega
  refine ⟨⟨by have := h.1; omega, hb2⟩, by omega, ?_, ?_, fun wx hx => ⟨hw wx hx, ?_⟩, fun ix hi => ?_, fun lx hl => ?_, fun ex hx => ?_, hp⟩
  · rw [hA 1 (by omega) (by omega) (by omega)]
    exact h.2.2.1
  · rw [hA 2 (by omega) (by omega) (by omega)]
    exact h.2.2.2.1
  · rw [hA _ (by omega) (by omega) (by omega)]
    have := (h.2.2.2.2.1 wx hx).2
    omega
  · rw [hA _ (by omega) (by omega) (by omega)]
    exact h.2.2.2.2.2.1 ix hi
  · rw [eM] at hl
    have hlx : lx < 20 := by omega
    have g := h.2.2.2.2.2.2.1 lx hl
    rw [hA (17 + 8 * lx) (by omega) (by omega) (by omega), hA (18 + 8 * lx) (by omega) (by omega) (by omega), hA (19 + 8 * lx) (by omega) (by omega) (by omega), hA (20 + 8 * lx) (by omega) (by omega) (by omega), hA (21 + 8 * lx) (by omega) (by omega) (by omega), hA (22 + 8 * lx) (by omega) (by omega) (by omega), hA (23 + 8 * lx) (by omega) (by omega) (by omega), hA (24 + 8 * lx) (by omega) (by omega) (by omega)]
    obtain ⟨q0, q1, q2, q3, q4, q5, q6, q7⟩ := g
    exact ⟨q0, ⟨q1.1, by omega⟩, q2, q3, q4, q5, ⟨q6.1, by omega⟩, ⟨q7.1, by omega⟩⟩
  · by_cases hc : ex = eN
    · rw [hc]
      exact he
    · have hx2 : ex < nEd A := by omega
      exact oIE_fr (oI_b h hx2).1 (oI_b h hx2).2.2.2 (fun x q1 q2 => hA x (by omega) (by omega) (by omega)) hb
/-- bars cut: nN bars from fN on taken out of edition eN -/
def cutA (A : Nat → Int) (eN fN nN : Nat) : Nat → Int := fun x =>
  if x = 178 + 813 * eN then A x - (nN : Int)
  else if 190 + 813 * eN + 8 * fN ≤ x ∧ x + 8 * nN < 198 + 813 * eN + 8 * nBr A eN then A (x + 8 * nN) else A x
theorem cutA_at {A : Nat → Int} {eN fN nN : Nat} : cutA A eN fN nN (178 + 813 * eN) = A (178 + 813 * eN) - (nN : Int) := if_pos rfl
theorem cutA_ne {A : Nat → Int} {eN fN nN x : Nat} (h : x ≠ 178 + 813 * eN) (h2 : x < 190 + 813 * eN + 8 * fN ∨ 198 + 813 * eN + 8 * nBr A eN ≤ x + 8 * nN) : cutA A eN fN nN x = A x := by
  unfold cutA
  rw [if_neg h, if_neg (by omega)]
theorem cutA_in {A : Nat → Int} {eN fN nN jx kx : Nat} (h : fN ≤ jx) (h2 : jx + nN ≤ nBr A eN) (hk : kx < 8) : cutA A eN fN nN (190 + 813 * eN + 8 * jx + kx) = A (190 + 813 * eN + 8 * (jx + nN) + kx) := by
  unfold cutA
  rw [if_neg (by omega), if_pos (by omega), show 190 + 813 * eN + 8 * jx + kx + 8 * nN = 190 + 813 * eN + 8 * (jx + nN) + kx by omega]
/-- where bar jx of the cut edition stood -/
def cutJ (fN nN jx : Nat) : Nat := if jx < fN then jx else jx + nN
theorem cutA_bar {A : Nat → Int} {eN fN nN jx kx : Nat} (h1 : 1 ≤ jx) (h2 : jx + nN ≤ nBr A eN) (hk : kx < 8) : cutA A eN fN nN (190 + 813 * eN + 8 * jx + kx) = A (190 + 813 * eN + 8 * cutJ fN nN jx + kx) := by
  unfold cutJ
  by_cases h : jx < fN
  · rw [if_pos h, cutA_ne (by omega) (by omega)]
  · rw [if_neg h, cutA_in (by omega) h2 hk]
theorem cutA_nB {A : Nat → Int} {eN fN nN : Nat} (h : ((nBr A eN : Nat) : Int) = A (178 + 813 * eN)) : nBr (cutA A eN fN nN) eN = nBr A eN - nN := by
  have h2 : nBr (cutA A eN fN nN) eN = (A (178 + 813 * eN) - (nN : Int)).toNat := by
    show (cutA A eN fN nN (178 + 813 * eN)).toNat = _
    rw [cutA_at]
  omega
theorem cutA_out {A : Nat → Int} {eN fN nN x : Nat} (hB : nBr A eN ≤ 99) (h : x < 177 + 813 * eN ∨ 990 + 813 * eN ≤ x) : cutA A eN fN nN x = A x := cutA_ne (by omega) (by omega)
theorem oHR_cut {σ : oM} {hC eN fN gN : Nat} {A : Nat → Int} {Bd : Int} (h : oHR σ hC A) (hI : oI Bd A) (heN : eN < nEd A) (hf : 1 ≤ fN) (hg : gN ≤ nBr A eN) (hfg : fN ≤ gN) (hlt : gN + 1 - fN < nBr A eN) :
    oHR (o_up (o_mv σ (rowK (hC + 2 + 13 * eN) 4 4) (gN + 1) fN (nBr A eN - gN)) (hC + 2 + 13 * eN) 2 (((nBr A eN : Nat) : Int) - ((gN : Int) - (fN : Int) + 1))) hC (cutA A eN fN (gN + 1 - fN)) := by
  have hn := oI_n hI
  obtain ⟨hIE, hb, hb1, hb9⟩ := oI_b hI heN
  have hnB := cutA_nB (fN := fN) (nN := gN + 1 - fN) hb
  have hnE : nEd (cutA A eN fN (gN + 1 - fN)) = nEd A := by
    unfold nEd
    rw [cutA_out hb9 (by omega)]
  have hR := oHR_e h heN
  have hUx : ∀ x, x ≠ hC + 2 + 13 * eN → ∀ y, (o_up (o_mv σ (rowK (hC + 2 + 13 * eN) 4 4) (gN + 1) fN (nBr A eN - gN)) (hC + 2 + 13 * eN) 2 (((nBr A eN : Nat) : Int) - ((gN : Int) - (fN : Int) + 1))) x y = o_mv σ (rowK (hC + 2 + 13 * eN) 4 4) (gN + 1) fN (nBr A eN - gN) x y := fun x hx y => by rw [o_up_ne hx]
  have hfx : ∀ x, (x < hC + 2 + 13 * eN ∨ hC + 2 + 13 * eN + 10 ≤ x) → (o_up (o_mv σ (rowK (hC + 2 + 13 * eN) 4 4) (gN + 1) fN (nBr A eN - gN)) (hC + 2 + 13 * eN) 2 (((nBr A eN : Nat) : Int) - ((gN : Int) - (fN : Int) + 1))) x = σ x := fun x hx => by rw [o_up_ne (by omega), o_mv_ne (by rw [rowK_f]; omega)]
  have hrow : ∀ rk kx jx, ((rk = kx + 1 ∧ kx < 4) ∨ (rk = kx + 2 ∧ 4 ≤ kx ∧ kx < 8)) → 1 ≤ jx → jx + (gN + 1 - fN) ≤ nBr A eN → (o_up (o_mv σ (rowK (hC + 2 + 13 * eN) 4 4) (gN + 1) fN (nBr A eN - gN)) (hC + 2 + 13 * eN) 2 (((nBr A eN : Nat) : Int) - ((gN : Int) - (fN : Int) + 1))) (hC + 2 + 13 * eN + rk) jx = cutA A eN fN (gN + 1 - fN) (190 + 813 * eN + 8 * jx + kx) := fun rk kx jx hk j1 j2 => by
    rw [hUx _ (by omega), cutA_bar j1 j2 (by omega)]
    unfold cutJ
    by_cases hj : jx < fN
    · rw [if_pos hj, o_mv_out (by omega)]
      exact oHR_r h heN j1 (by omega) hk
    · rw [if_neg hj, o_mv_in (by rw [rowK_t]; omega) (by omega) (by omega), show gN + 1 + (jx - fN) = jx + (gN + 1 - fN) by omega]
      exact oHR_r h heN (by omega) (by omega) hk
  refine oHR_ed h hn.2.2.1 hn.2.2.2 (fun ex he => (oI_b hI he).2.2.2) (by omega) (fun x _ hx => cutA_out hb9 hx) (Or.inl hnE) (fun x h1 h2 h3 => hfx x (by omega)) ?_ ?_ ?_ ?_
  · rw [hfx _ (by omega), hnE]
    exact h.1
  · rw [hfx _ (by omega)]
  · rw [hfx _ (by omega)]
  · rw [hnB]
    refine ⟨?_, ?_, ?_, fun ix hi => ?_, fun jx j1 j2 => ?_⟩
    · rw [o_up_nj (Or.inr (by decide)), o_mv_ne (by rw [rowK_f]; omega), cutA_ne (by omega) (by omega)]
      exact hR.1
    · rw [o_up_nj (Or.inr (by decide)), o_mv_ne (by rw [rowK_f]; omega), cutA_ne (by omega) (by omega), show 177 + 813 * eN + 2 = 179 + 813 * eN by omega]
      exact hR.2.1
    · rw [o_up_at]
      omega
    · obtain ⟨q1, q2, q3⟩ := oHR_c h heN hi
      rw [hfx _ (by omega), hfx _ (by omega), hfx _ (by omega), cutA_ne (by omega) (by omega), cutA_ne (by omega) (by omega), cutA_ne (by omega) (by omega), show 177 + 813 * eN + 3 + 3 * ix = 180 + 813 * eN + 3 * ix by omega, show 177 + 813 * eN + 4 + 3 * ix = 181 + 813 * eN + 3 * ix by omega, show 177 + 813 * eN + 5 + 3 * ix = 182 + 813 * eN + 3 * ix by omega]
      exact ⟨q1, q2, q3⟩
    · have j3 : jx + (gN + 1 - fN) ≤ nBr A eN := by omega
      refine ⟨?_, ?_, ?_, ?_, fun ix hi => ?_⟩
      · rw [hrow 1 0 jx (by omega) j1 j3]
        congr 1
        omega
      · rw [hrow 2 1 jx (by omega) j1 j3]
        congr 1
        omega
      · rw [hrow 3 2 jx (by omega) j1 j3]
        congr 1
        omega
      · rw [hrow 4 3 jx (by omega) j1 j3]
        congr 1
        omega
      · rw [show hC + 2 + 13 * eN + 6 + ix = hC + 2 + 13 * eN + (6 + ix) by omega, hrow (6 + ix) (4 + ix) jx (by omega) j1 j3]
        congr 1
        omega
theorem oI_cut {Bd : Int} {eN fN nN : Nat} {A : Nat → Int} (h : oI Bd A) (heN : eN < nEd A) (hf : 1 ≤ fN) (hlt : nN < nBr A eN) : oI Bd (cutA A eN fN nN) := by
  have hn := oI_n h
  obtain ⟨hIE, hb, hb1, hb9⟩ := oI_b h heN
  have hnB := cutA_nB (fN := fN) (nN := nN) hb
  have hnE : nEd (cutA A eN fN nN) = nEd A := by
    unfold nEd
    rw [cutA_out hb9 (by omega)]
  refine oI_ed (eN := eN) h (Int.le_refl _) h.1.2 (by omega) (fun x _ _ hx => cutA_out hb9 hx) (Or.inl ⟨cutA_out hb9 (by omega), heN⟩) (fun wx hw => ?_) ?_ ?_
  · rw [cutA_out hb9 (by omega)]
    exact (h.2.2.2.2.1 wx hw).1
  · obtain ⟨g0, g1, g2, g3, g4⟩ := hIE
    refine ⟨?_, ?_, ?_, fun ix hi => ?_, fun jx j1 j2 => ?_⟩
    · rw [cutA_ne (by omega) (by omega)]
      exact g0
    · rw [cutA_at]
      omega
    · rw [cutA_ne (by omega) (by omega)]
      exact g2
    · rw [cutA_ne (by omega) (by omega), cutA_ne (by omega) (by omega), cutA_ne (by omega) (by omega)]
      exact g3 ix hi
    · rw [hnB] at j2
      have hj : 1 ≤ cutJ fN nN jx ∧ cutJ fN nN jx ≤ nBr A eN := by
        unfold cutJ
        split <;> omega
      obtain ⟨q0, q1, q2, q3, q4⟩ := g4 _ hj.1 hj.2
      have e0 := cutA_bar (A := A) (eN := eN) (fN := fN) (nN := nN) (jx := jx) (kx := 0) j1 (by omega) (by omega)
      have e1 := cutA_bar (A := A) (eN := eN) (fN := fN) (nN := nN) (jx := jx) (kx := 1) j1 (by omega) (by omega)
      have e2 := cutA_bar (A := A) (eN := eN) (fN := fN) (nN := nN) (jx := jx) (kx := 2) j1 (by omega) (by omega)
      have e3 := cutA_bar (A := A) (eN := eN) (fN := fN) (nN := nN) (jx := jx) (kx := 3) j1 (by omega) (by omega)
      rw [show 190 + 813 * eN + 8 * jx + 0 = 190 + 813 * eN + 8 * jx by omega, show 190 + 813 * eN + 8 * cutJ fN nN jx + 0 = 190 + 813 * eN + 8 * cutJ fN nN jx by omega] at e0
      rw [show 190 + 813 * eN + 8 * jx + 1 = 191 + 813 * eN + 8 * jx by omega, show 190 + 813 * eN + 8 * cutJ fN nN jx + 1 = 191 + 813 * eN + 8 * cutJ fN nN jx by omega] at e1
      rw [show 190 + 813 * eN + 8 * jx + 2 = 192 + 813 * eN + 8 * jx by omega, show 190 + 813 * eN + 8 * cutJ fN nN jx + 2 = 192 + 813 * eN + 8 * cutJ fN nN jx by omega] at e2
      rw [show 190 + 813 * eN + 8 * jx + 3 = 193 + 813 * eN + 8 * jx by omega, show 190 + 813 * eN + 8 * cutJ fN nN jx + 3 = 193 + 813 * eN + 8 * cutJ fN nN jx by omega] at e3
      refine ⟨by rw [e0]; exact q0, by rw [e1]; exact q1, by rw [e2]; exact q2, by rw [e3]; exact q3, fun ix hi => ?_⟩
      have e4 := cutA_bar (A := A) (eN := eN) (fN := fN) (nN := nN) (jx := jx) (kx := 4 + ix) j1 (by omega) (by omega)
      rw [show 190 + 813 * eN + 8 * jx + (4 + ix) = 194 + 813 * eN + 8 * jx + ix by omega, show 190 + 813 * eN + 8 * cutJ fN nN jx + (4 + ix) = 194 + 813 * eN + 8 * cutJ fN nN jx + ix by omega] at e4
      rw [e4]
      exact q4 ix hi
  · obtain ⟨pos, hpos⟩ := h.2.2.2.2.2.2.2.2
    refine ⟨pos, fun ex he jx j1 j2 => ?_⟩
    rw [hnE] at he
    have hw3 := (oI_b h he).1.1
    by_cases hc : ex = eN
    · subst hc
      rw [hnB] at j2
      have hj : 1 ≤ cutJ fN nN jx ∧ cutJ fN nN jx ≤ nBr A ex := by
        unfold cutJ
        split <;> omega
      have e0 := cutA_bar (A := A) (eN := ex) (fN := fN) (nN := nN) (jx := jx) (kx := 0) j1 (by omega) (by omega)
      rw [show 190 + 813 * ex + 8 * jx + 0 = 190 + 813 * ex + 8 * jx by omega, show 190 + 813 * ex + 8 * cutJ fN nN jx + 0 = 190 + 813 * ex + 8 * cutJ fN nN jx by omega] at e0
      have e7 : cutA A ex fN nN (177 + 813 * ex) = A (177 + 813 * ex) := cutA_ne (by omega) (by omega)
      have hp := hpos ex he _ hj.1 hj.2
      rw [e0, e7]
      refine ⟨?_, fun kx k1 k2 => ?_⟩
      · rw [cutA_out hb9 (by omega)]
        exact hp.1
      · rw [hnB] at k2
        have f0 := cutA_bar (A := A) (eN := ex) (fN := fN) (nN := nN) (jx := kx) (kx := 0) (by omega) (by omega) (by omega)
        rw [show 190 + 813 * ex + 8 * kx + 0 = 190 + 813 * ex + 8 * kx by omega, show 190 + 813 * ex + 8 * cutJ fN nN kx + 0 = 190 + 813 * ex + 8 * cutJ fN nN kx by omega] at f0
        rw [f0]
        refine hp.2 _ ?_ ?_
        · unfold cutJ
          split <;> split <;> omega
        · unfold cutJ
          split <;> omega
    · have hb9x := (oI_b h he).2.2.2
      have eB : nBr (cutA A eN fN nN) ex = nBr A ex := by
        unfold nBr
        rw [cutA_out hb9 (by omega)]
      rw [eB] at j2
      have hp := hpos ex he jx j1 j2
      rw [cutA_out hb9 (x := 177 + 813 * ex) (by omega), cutA_out hb9 (x := 190 + 813 * ex + 8 * jx) (by omega)]
      refine ⟨?_, fun kx k1 k2 => ?_⟩
      · rw [cutA_out hb9 (by omega)]
        exact hp.1
      · rw [eB] at k2
        rw [cutA_out hb9 (by omega)]
        exact hp.2 kx k1 k2
def fCut (A : Nat → Int) (rf z v w : Int) : Int × (Nat → Int) × Int :=
  if isBrF A z v ∧ isBrF A z w then (if w < v ∨ A (178 + 813 * z.toNat) ≤ w - v + 1 then (-2, A, rf) else if 0 < boughtF A z.toNat then (-5, A, 4)
    else (A (178 + 813 * z.toNat) - (w - v + 1), cutA A z.toNat v.toNat (w.toNat + 1 - v.toNat), rf))
  else (-1, A, rf)
theorem fCut_I {Bd : Int} {A : Nat → Int} {rf z v w : Int} (h : oI Bd A) : oI Bd (fCut A rf z v w).2.1 := by
  unfold fCut
  by_cases h1 : isBrF A z v ∧ isBrF A z w
  · rw [if_pos h1]
    obtain ⟨eN, bN, rfl, rfl, g1, g2, g3, g4, g5⟩ := isBr_n h h1.1
    have h12 := h1.2.2
    have hb := (oI_b h g1).2.1
    rw [Int.toNat_natCast] at h12
    rw [Int.toNat_natCast, Int.toNat_natCast]
    split
    · exact h
    · split
      · exact h
      · exact oI_cut h g1 g3 (by omega)
  · rw [if_neg h1]
    exact h
theorem fCut_r {Bd : Int} {A : Nat → Int} {rf z v w : Int} (h : oI Bd A) : o_r (fCut A rf z v w).1 := by
  unfold fCut
  by_cases h1 : isBrF A z v ∧ isBrF A z w
  · rw [if_pos h1]
    obtain ⟨eN, bN, rfl, rfl, g1, g2, g3, g4, g5⟩ := isBr_n h h1.1
    have h12 := h1.2.2
    have hb := (oI_b h g1).2.1
    rw [Int.toNat_natCast] at h12
    rw [Int.toNat_natCast, Int.toNat_natCast]
    split
    · show o_r (-2)
      omega
    · split
      · show o_r (-5)
        omega
      · show o_r (A _ - _)
        omega
  · rw [if_neg h1]
    show o_r (-1)
    omega
set_option maxRecDepth 20000 in
set_option maxHeartbeats 8000000 in
theorem c_X8_cutBars {T : oT} {σ : oM} {xC : Nat} {A : Nat → Int} {Bd : Int} (hX : oX T xC) (hR : oHR σ (xC + 1) A) (hI : oI Bd A) {z v w : Int} (hz : o_r z) (hv : o_r v) (hw : o_r w) : MS yX8_cutBars cX8_cutBars 5 (some FieldType.int) 3 0 0 76 [og xC, oi z, oi v, oi w] T σ (oPs (fun zx σ2 => zx = (fCut A (σ xC 10) z v w).1 ∧ oCh σ σ2 xC (fCut A (σ xC 10) z v w).2.1 (fCut A (σ xC 10) z v w).2.2) T) := by
  have hXc := hX
  obtain ⟨hX0, hXr0, hXr1, hXr2, hXr3, hXr4, hXr5, hXr6, hXn, hXs, hXy, hXq, hXk, hXb, hXbs, hXi, hXT⟩ := hXc
  have hHc := hXn
  obtain ⟨hH0, hH1, hH2, hH3, hH4, hH6, hG1, hG80, hG81, hG82, hG83, hEs, hLs, hHT⟩ := hHc
  have hRc := hR
  obtain ⟨hR0, hR5, hR7, hRw8, hRp, hRl, hRe⟩ := hRc
  have hIn := oI_n hI
  have hIc := hI
  obtain ⟨hI1, hI2, hI3, hI4, hI5, hI6, hI7, hI8, -⟩ := hIc
  refine o_met (by decide +kernel) (Nat.le_of_ble_eq_true rfl) (fun p l ee s m args below meth c G b C hr hn => ?_)
  have C : oCx p s m args meth c G b RX8 cX8_cutBars 5 := C
  show oW p l ee ({ frames := 3, cells := 0, slots := 0, locals := 76 } : Room) s m args below meth c G b 5 0 0 (MQ below (o_Qc G b (oPs (fun zx σ2 => zx = (fCut A (σ xC 10) z v w).1 ∧ oCh σ σ2 xC (fCut A (σ xC 10) z v w).2.1 (fCut A (σ xC 10) z v w).2.2) T)) args s 0 0 (fun q => b ≤ q)) T σ 0 [some (og xC), some (oi z), some (oi v), some (oi w), none] []
  refine r_al0 (q := 1) C dX8_cutBars_0 rfl ?_
  refine r_il1 (q := 2) C dX8_cutBars_1 rfl ?_
  refine r_il2 (q := 3) C dX8_cutBars_2 rfl ?_
  refine r_callVb (q := 6) C (c_X8_isBar hX hR hI (by omega) (by omega)) m_X8_103 (by assumption) (by omega) dX8_cutBars_3 rfl rfl (by decide) (by decide) (Nat.le_of_ble_eq_true rfl) (fun br3 => ?_) (fun br3 => ?_)
  · refine r_ifeq_f (q := 18) (q2 := 9) C (by decide) (by omega) dX8_cutBars_6 (by decide) rfl ?_
    refine r_al0 (q := 10) C dX8_cutBars_9 rfl ?_
    refine r_il1 (q := 11) C dX8_cutBars_10 rfl ?_
    refine r_il3 (q := 12) C dX8_cutBars_11 rfl ?_
    refine r_callVb (q := 15) C (c_X8_isBar hX hR hI (by omega) (by omega)) m_X8_103 (by assumption) (by omega) dX8_cutBars_12 rfl rfl (by decide) (by decide) (Nat.le_of_ble_eq_true rfl) (fun br12 => ?_) (fun br12 => ?_)
    · refine r_ifne_t (q := 20) C (by decide) (by omega) dX8_cutBars_15 (by decide) ?_
      have hs := fCut.eq_1 A (σ xC 10) z v w
      rw [if_pos ⟨br3, br12⟩] at hs
      obtain ⟨eN, bN, rfl, rfl, heN, heN6, hbN1, hbN2, hbN9⟩ := isBr_n hI br3
      have hEj0 := (hEs eN (by omega)).1
      have hEd := (hEs eN (by omega)).2
      have hEj1 := hEd.1
      have hRE := oHR_e hR (ex := eN) (by omega)
      have hIE := oI_b hI (ex := eN) (by omega)
      obtain ⟨hRE0, hRE1, hRE2⟩ := hRE
      have hREc : ∀ ix, ix < 6 → _ := fun ix hi => oHR_c hR (ex := eN) (ix := ix) (by omega) hi
      have hREb : ∀ jx, 1 ≤ jx → jx ≤ nBr A eN → _ := fun jx j1 j2 => oHR_b hR (ex := eN) (jx := jx) (by omega) j1 j2
      have hEdc := hEd
      obtain ⟨hE0, hE3, hE4, hE5, hE6, hE7, hE8, hE9, hE10, hA1, hA2, hA3, hA4, hA5, hRw, hA10, hA11, hA12, hTe⟩ := hEdc
      obtain ⟨hb1, hb2, hb3, hb4, hb5⟩ := hREb bN hbN1 hbN2
      obtain ⟨gN, rfl⟩ : ∃ gN : Nat, w = (gN : Int) := ⟨w.toNat, by have := br12.2; omega⟩
      have hg := br12.2
      simp only [Int.toNat_natCast] at hg hs
      refine r_al0 (q := 21) C dX8_cutBars_20 rfl ?_
      refine r_getR (q := 24) C f_X8_10 dX8_cutBars_21 rfl rfl (by assumption) (by assumption) (by omega) ?_
      refine r_getR (q := 27) C f_X8_107 dX8_cutBars_24 rfl rfl (by assumption) (by assumption) (by omega) ?_
      refine r_il1 (q := 28) C dX8_cutBars_27 rfl ?_
      refine r_aald (q := 29) C (eN) dX8_cutBars_28 rfl (by assumption) (by omega) (by omega) (by omega) (by decide) hEj0 rfl rfl (by decide) (by decide) ?_
      refine r_as4 (q := 31) C dX8_cutBars_29 rfl (by decide) ?_
      refine r_il3 (q := 32) C dX8_cutBars_31 rfl ?_
      refine r_il2 (q := 33) C dX8_cutBars_32 rfl ?_
      refine r_iclt (q := 49) (q2 := 36) C (by omega) (by omega) dX8_cutBars_33 (by decide) rfl (fun br33 => ?_) (fun br33 => ?_)
      · refine r_bipush (q := 51) C dX8_cutBars_49 (by decide) rfl ?_
        exact r_iret C hr dX8_cutBars_51 (by decide) (by decide) ⟨_, rfl, rfl, by rw [hs, if_pos (by omega)], by rw [hs, if_pos (by omega)]; exact oCh_rf hR⟩
      · refine r_il3 (q := 37) C dX8_cutBars_36 rfl ?_
        refine r_il2 (q := 38) C dX8_cutBars_37 rfl ?_
        refine r_isub (q := 39) C dX8_cutBars_38 rfl ?_
        refine r_iconst (q := 40) C dX8_cutBars_39 rfl ?_
        refine r_iadd (q := 41) C dX8_cutBars_40 rfl ?_
        refine r_al4 (q := 43) C dX8_cutBars_41 rfl ?_
        refine r_getI (q := 46) C f_X8_111 dX8_cutBars_43 rfl rfl (by assumption) (by omega) ?_
        rw [hRE2]
        refine r_iclt (q := 52) (q2 := 49) C (by omega) (by omega) dX8_cutBars_46 (by decide) rfl (fun br46 => ?_) (fun br46 => ?_)
        · refine r_al4 (q := 54) C dX8_cutBars_52 rfl ?_
          refine r_callVb (q := 57) C (c_X4_isBought hEd (fun i hi => by obtain ⟨q1, q2, q3⟩ := hREc i hi; have := hIE.1.2.2.2.1 i hi; rw [q1, q2, q3]; omega)) m_X8_116 (by assumption) (by omega) dX8_cutBars_54 rfl rfl (by decide) (by decide) (Nat.le_of_ble_eq_true rfl) (fun br54 => ?_) (fun br54 => ?_)
          · refine r_ifeq_f (q := 66) (q2 := 60) C (by decide) (by omega) dX8_cutBars_57 (by decide) rfl ?_
            rw [bought_of hR heN] at br54
            rw [if_neg (by omega), if_pos br54] at hs
            refine r_al0 (q := 61) C dX8_cutBars_60 rfl ?_
            refine r_iconst (q := 62) C dX8_cutBars_61 rfl ?_
            refine r_callVs (q := 65) C (c_X8_refuse hX) m_X8_120 (by assumption) (by omega) dX8_cutBars_62 rfl rfl (by decide) (by decide) (Nat.le_of_ble_eq_true rfl) (fun z2 σ2 hσ2 => ?_)
            refine r_iret C hr dX8_cutBars_65 (by decide) (by decide) ?_
            obtain ⟨rfl, rfl⟩ := hσ2
            exact ⟨_, rfl, rfl, by rw [hs], by rw [hs]; exact oCh_no hR ⟨hIn.2.2.1, hIn.2.2.2⟩⟩
          · refine r_ifeq_t (q := 66) C (by decide) (by omega) dX8_cutBars_57 (by decide) ?_
            rw [bought_of hR heN] at br54
            rw [if_neg (by omega), if_neg br54] at hs
            have hnew := oHR_cut (fN := bN) (gN := gN) hR hI heN hbN1 (by omega) (by omega) (by omega)
            refine r_al4 (q := 68) C dX8_cutBars_66 rfl ?_
            refine r_il2 (q := 69) C dX8_cutBars_68 rfl ?_
            refine r_il3 (q := 70) C dX8_cutBars_69 rfl ?_
            refine r_callVv (q := 73) C (c_X4_removeBars (fx := bN) (gx := gN) hEd hRE2 (by omega) (by omega) (by omega) (by omega)) m_X8_123 (by assumption) (by omega) dX8_cutBars_70 rfl rfl (by decide) (by decide) (Nat.le_of_ble_eq_true rfl) (fun σ2 hσ2 => ?_)
            subst hσ2
            refine r_al4 (q := 75) C dX8_cutBars_73 rfl ?_
            refine r_getI (q := 78) C f_X8_111 dX8_cutBars_75 rfl rfl (by assumption) (by omega) ?_
            refine r_iret C hr dX8_cutBars_78 (by decide) (by decide) ?_
            refine ⟨_, rfl, rfl, ?_, ?_⟩
            · rw [hs, o_up_at]
              show _ = A (178 + 813 * eN) - _
              omega
            · rw [hs]
              exact ⟨hnew, fun x h1 h2 => by rw [o_up_ne (by omega), o_mv_ne (by rw [rowK_f]; omega)], fun k _ => by rw [o_up_ne (by omega), o_mv_ne (by rw [rowK_f]; omega)], by rw [o_up_ne (by omega), o_mv_ne (by rw [rowK_f]; omega)]⟩
        · refine r_bipush (q := 51) C dX8_cutBars_49 (by decide) rfl ?_
          exact r_iret C hr dX8_cutBars_51 (by decide) (by decide) ⟨_, rfl, rfl, by rw [hs, if_pos (by omega)], by rw [hs, if_pos (by omega)]; exact oCh_rf hR⟩
    · refine r_ifne_f (q := 20) (q2 := 18) C (by decide) (by omega) dX8_cutBars_15 (by decide) rfl ?_
      refine r_iconst (q := 19) C dX8_cutBars_18 rfl ?_
      exact r_iret C hr dX8_cutBars_19 (by decide) (by decide) ⟨_, rfl, rfl, by rw [fCut, if_neg (fun hc => br12 hc.2)], by rw [fCut, if_neg (fun hc => br12 hc.2)]; exact oCh_rf hR⟩
  · refine r_ifeq_t (q := 18) C (by decide) (by omega) dX8_cutBars_6 (by decide) ?_
    refine r_iconst (q := 19) C dX8_cutBars_18 rfl ?_
    exact r_iret C hr dX8_cutBars_19 (by decide) (by decide) ⟨_, rfl, rfl, by rw [fCut, if_neg (fun hc => br3 hc.1)], by rw [fCut, if_neg (fun hc => br3 hc.1)]; exact oCh_rf hR⟩
