/-! the holdings after a change of one number -/
theorem oHR_mk {σ : oM} {hC : Nat} {A : Nat → Int} (c0 : σ hC 0 = ((nEd A : Nat) : Int)) (c5 : σ hC 5 = ((nLn A : Nat) : Int)) (c7 : σ hC 7 = A 2) (cw : ∀ wx, wx < 4 → σ (hC + 80) wx = A (3 + wx)) (cv : ∀ wx, wx < 4 → σ (hC + 81) wx = A (7 + wx)) (cp : ∀ ix, ix < 6 → σ (hC + 82) ix = A (11 + ix))
  (cl : ∀ lx, lx < nLn A → ∀ fk kx, (fk < 5 ∧ kx = fk) ∨ (fk = 5 ∧ kx = 7) ∨ (fk = 6 ∧ kx = 5) ∨ (fk = 7 ∧ kx = 6) → σ (hC + 84 + lx) fk = A (17 + 8 * lx + kx))
  (ce0 : ∀ ex, ex < nEd A → σ (hC + 2 + 13 * ex) 0 = A (177 + 813 * ex)) (ce1 : ∀ ex, ex < nEd A → σ (hC + 2 + 13 * ex) 1 = A (179 + 813 * ex)) (ce2 : ∀ ex, ex < nEd A → σ (hC + 2 + 13 * ex) 2 = ((nBr A ex : Nat) : Int))
  (cc0 : ∀ ex, ex < nEd A → ∀ ix, ix < 6 → σ (hC + 2 + 13 * ex + 10) ix = A (180 + 813 * ex + 3 * ix) - A (181 + 813 * ex + 3 * ix) - A (182 + 813 * ex + 3 * ix)) (cc1 : ∀ ex, ex < nEd A → ∀ ix, ix < 6 → σ (hC + 2 + 13 * ex + 11) ix = A (181 + 813 * ex + 3 * ix)) (cc2 : ∀ ex, ex < nEd A → ∀ ix, ix < 6 → σ (hC + 2 + 13 * ex + 12) ix = A (182 + 813 * ex + 3 * ix))
  (cb : ∀ ex, ex < nEd A → ∀ jx, 1 ≤ jx → jx ≤ nBr A ex → ∀ rk kx, (rk = kx + 1 ∧ kx < 4) ∨ (rk = kx + 2 ∧ 4 ≤ kx ∧ kx < 8) → σ (hC + 2 + 13 * ex + rk) jx = A (190 + 813 * ex + 8 * jx + kx)) : oHR σ hC A := by
  refine ⟨c0, c5, c7, fun wx hw => ⟨cw wx hw, cv wx hw⟩, cp, fun lx hl => ?_, fun ex he => ⟨ce0 ex he, ?_, ce2 ex he, fun ix hi => ?_, fun jx j1 j2 => ?_⟩⟩
  · exact ⟨cl lx hl 0 0 (by omega), by rw [cl lx hl 1 1 (by omega), show 17 + 8 * lx + 1 = 18 + 8 * lx by omega], by rw [cl lx hl 2 2 (by omega), show 17 + 8 * lx + 2 = 19 + 8 * lx by omega], by rw [cl lx hl 3 3 (by omega), show 17 + 8 * lx + 3 = 20 + 8 * lx by omega], by rw [cl lx hl 4 4 (by omega), show 17 + 8 * lx + 4 = 21 + 8 * lx by omega], by rw [cl lx hl 5 7 (by omega), show 17 + 8 * lx + 7 = 24 + 8 * lx by omega], by rw [cl lx hl 6 5 (by omega), show 17 + 8 * lx + 5 = 22 + 8 * lx by omega], by rw [cl lx hl 7 6 (by omega), show 17 + 8 * lx + 6 = 23 + 8 * lx by omega]⟩
  · rw [ce1 ex he, show 177 + 813 * ex + 2 = 179 + 813 * ex by omega]
  · rw [show 177 + 813 * ex + 3 + 3 * ix = 180 + 813 * ex + 3 * ix by omega, show 177 + 813 * ex + 4 + 3 * ix = 181 + 813 * ex + 3 * ix by omega, show 177 + 813 * ex + 5 + 3 * ix = 182 + 813 * ex + 3 * ix by omega]
    exact ⟨cc0 ex he ix hi, cc1 ex he ix hi, cc2 ex he ix hi⟩
  · refine ⟨?_, ?_, ?_, ?_, fun ix hi => ?_⟩
    · rw [show 177 + 813 * ex + 13 + 8 * jx = 190 + 813 * ex + 8 * jx + 0 by omega]
      exact cb ex he jx j1 j2 1 0 (by omega)
    · rw [show 177 + 813 * ex + 14 + 8 * jx = 190 + 813 * ex + 8 * jx + 1 by omega]
      exact cb ex he jx j1 j2 2 1 (by omega)
    · rw [show 177 + 813 * ex + 15 + 8 * jx = 190 + 813 * ex + 8 * jx + 2 by omega]
      exact cb ex he jx j1 j2 3 2 (by omega)
    · rw [show 177 + 813 * ex + 16 + 8 * jx = 190 + 813 * ex + 8 * jx + 3 by omega]
      exact cb ex he jx j1 j2 4 3 (by omega)
    · rw [show 177 + 813 * ex + 17 + 8 * jx + ix = 190 + 813 * ex + 8 * jx + (4 + ix) by omega, show hC + 2 + 13 * ex + 6 + ix = hC + 2 + 13 * ex + (6 + ix) by omega]
      exact cb ex he jx j1 j2 (6 + ix) (4 + ix) (by omega)
theorem oHR_l {σ : oM} {hC lx : Nat} {A : Nat → Int} (h : oHR σ hC A) (hl : lx < nLn A) {fk kx : Nat} (hk : (fk < 5 ∧ kx = fk) ∨ (fk = 5 ∧ kx = 7) ∨ (fk = 6 ∧ kx = 5) ∨ (fk = 7 ∧ kx = 6)) : σ (hC + 84 + lx) fk = A (17 + 8 * lx + kx) := by
  obtain ⟨g0, g1, g2, g3, g4, g5, g6, g7⟩ := h.2.2.2.2.2.1 lx hl
  rcases (show (fk = 0 ∧ kx = 0) ∨ (fk = 1 ∧ kx = 1) ∨ (fk = 2 ∧ kx = 2) ∨ (fk = 3 ∧ kx = 3) ∨ (fk = 4 ∧ kx = 4) ∨ (fk = 5 ∧ kx = 7) ∨ (fk = 6 ∧ kx = 5) ∨ (fk = 7 ∧ kx = 6) by omega) with ⟨rfl, rfl⟩ | ⟨rfl, rfl⟩ | ⟨rfl, rfl⟩ | ⟨rfl, rfl⟩ | ⟨rfl, rfl⟩ | ⟨rfl, rfl⟩ | ⟨rfl, rfl⟩ | ⟨rfl, rfl⟩
  · exact g0
  · rw [g1, show 17 + 8 * lx + 1 = 18 + 8 * lx by omega]
  · rw [g2, show 17 + 8 * lx + 2 = 19 + 8 * lx by omega]
  · rw [g3, show 17 + 8 * lx + 3 = 20 + 8 * lx by omega]
  · rw [g4, show 17 + 8 * lx + 4 = 21 + 8 * lx by omega]
  · rw [g5, show 17 + 8 * lx + 7 = 24 + 8 * lx by omega]
  · rw [g6, show 17 + 8 * lx + 5 = 22 + 8 * lx by omega]
  · rw [g7, show 17 + 8 * lx + 6 = 23 + 8 * lx by omega]
theorem oHR_r {σ : oM} {hC ex jx : Nat} {A : Nat → Int} (h : oHR σ hC A) (he : ex < nEd A) (h1 : 1 ≤ jx) (h2 : jx ≤ nBr A ex) {rk kx : Nat} (hk : (rk = kx + 1 ∧ kx < 4) ∨ (rk = kx + 2 ∧ 4 ≤ kx ∧ kx < 8)) : σ (hC + 2 + 13 * ex + rk) jx = A (190 + 813 * ex + 8 * jx + kx) := by
  obtain ⟨g0, g1, g2, g3, g4⟩ := oHR_b h he h1 h2
  rcases (show (rk = 1 ∧ kx = 0) ∨ (rk = 2 ∧ kx = 1) ∨ (rk = 3 ∧ kx = 2) ∨ (rk = 4 ∧ kx = 3) ∨ ∃ ix, ix < 4 ∧ rk = 6 + ix ∧ kx = 4 + ix by
    rcases hk with hk | hk
    · omega
    · exact Or.inr (Or.inr (Or.inr (Or.inr ⟨kx - 4, by omega, by omega, by omega⟩)))) with ⟨rfl, rfl⟩ | ⟨rfl, rfl⟩ | ⟨rfl, rfl⟩ | ⟨rfl, rfl⟩ | ⟨ix, hi, rfl, rfl⟩
  · exact g0
  · rw [g1, show 190 + 813 * ex + 8 * jx + 1 = 191 + 813 * ex + 8 * jx by omega]
  · rw [g2, show 190 + 813 * ex + 8 * jx + 2 = 192 + 813 * ex + 8 * jx by omega]
  · rw [g3, show 190 + 813 * ex + 8 * jx + 3 = 193 + 813 * ex + 8 * jx by omega]
  · rw [show hC + 2 + 13 * ex + (6 + ix) = hC + 2 + 13 * ex + 6 + ix by omega, g4 ix hi, show 190 + 813 * ex + 8 * jx + (4 + ix) = 194 + 813 * ex + 8 * jx + ix by omega]
theorem updF_ne {f : Nat → Int} {k j : Nat} {x : Int} (h : j ≠ k) : updF f k x j = f j := if_neg h
theorem updF_at {f : Nat → Int} {k : Nat} {x : Int} : updF f k x k = x := if_pos rfl
theorem oHR_upB {σ : oM} {hC eN bN rN kN : Nat} {A : Nat → Int} {tx : Int} (h : oHR σ hC A) (hN6 : nEd A ≤ 6) (hM20 : nLn A ≤ 20) (hB9 : ∀ ex, ex < nEd A → nBr A ex ≤ 99) (heN : eN < nEd A) (hb1 : 1 ≤ bN) (hb2 : bN ≤ 99) (hrk : (rN = kN + 1 ∧ kN < 4) ∨ (rN = kN + 2 ∧ 4 ≤ kN ∧ kN < 8)) : oHR (o_up σ (hC + 2 + 13 * eN + rN) (bN) (tx)) hC (updF A (190 + 813 * eN + 8 * bN + kN) (tx)) := by
  have hcp := h
  obtain ⟨h0, h5, h7, h3, h4, -, -⟩ := hcp
  have eNd : nEd (updF A (190 + 813 * eN + 8 * bN + kN) (tx)) = nEd A := by
    unfold nEd
    rw [updF_ne (by omega)]
  have eM : nLn (updF A (190 + 813 * eN + 8 * bN + kN) (tx)) = nLn A := by
    unfold nLn
    rw [updF_ne (by omega)]
  have eB : ∀ ex, nBr (updF A (190 + 813 * eN + 8 * bN + kN) (tx)) ex = nBr A ex := fun ex => by
    unfold nBr
    rw [updF_ne (by rcases (show ex < eN ∨ ex = eN ∨ eN < ex by omega) with hjx | hjx | hjx <;> omega)]
  have uU : ∀ x y, ¬ (x = hC + 2 + 13 * eN + rN ∧ y = bN) → (o_up σ (hC + 2 + 13 * eN + rN) (bN) (tx)) x y = σ x y := fun x y hxy => by
    unfold o_up
    rw [if_neg hxy]
  refine oHR_mk ?_ ?_ ?_ (fun wx hw => ?_) (fun wx hw => ?_) (fun ix hi => ?_) (fun lx hl fk kx hk => ?_) (fun ex he => ?_) (fun ex he => ?_) (fun ex he => ?_) (fun ex he ix hi => ?_) (fun ex he ix hi => ?_) (fun ex he ix hi => ?_) (fun ex he jx j1 j2 rk kx hk => ?_)
  · rw [uU _ _ (by omega), eNd]
    exact h0
  · rw [uU _ _ (by omega), eM]
    exact h5
  · rw [uU _ _ (by omega), updF_ne (by omega)]
    exact h7
  · rw [uU _ _ (by omega), updF_ne (by omega)]
    exact (h3 wx hw).1
  · rw [uU _ _ (by omega), updF_ne (by omega)]
    exact (h3 wx hw).2
  · rw [uU _ _ (by omega), updF_ne (by omega)]
    exact h4 ix hi
  · rw [eM] at hl
    rw [uU _ _ (by omega), updF_ne (by omega)]
    exact oHR_l h hl hk
  · rw [eNd] at he
    rw [uU _ _ (by omega), updF_ne (by rcases (show ex < eN ∨ ex = eN ∨ eN < ex by omega) with hjx | hjx | hjx <;> omega)]
    exact (oHR_e h he).1
  · rw [eNd] at he
    rw [uU _ _ (by omega), updF_ne (by rcases (show ex < eN ∨ ex = eN ∨ eN < ex by omega) with hjx | hjx | hjx <;> omega)]
    exact (oHR_e h he).2.1
  · rw [eNd] at he
    rw [uU _ _ (by omega), eB]
    exact (oHR_e h he).2.2
  · rw [eNd] at he
    rw [uU _ _ (by omega), updF_ne (by rcases (show ex < eN ∨ ex = eN ∨ eN < ex by omega) with hjx | hjx | hjx <;> omega), updF_ne (by rcases (show ex < eN ∨ ex = eN ∨ eN < ex by omega) with hjx | hjx | hjx <;> omega), updF_ne (by rcases (show ex < eN ∨ ex = eN ∨ eN < ex by omega) with hjx | hjx | hjx <;> omega)]
    exact (oHR_c h he hi).1
  · rw [eNd] at he
    rw [uU _ _ (by omega), updF_ne (by rcases (show ex < eN ∨ ex = eN ∨ eN < ex by omega) with hjx | hjx | hjx <;> omega)]
    exact (oHR_c h he hi).2.1
  · rw [eNd] at he
    rw [uU _ _ (by omega), updF_ne (by rcases (show ex < eN ∨ ex = eN ∨ eN < ex by omega) with hjx | hjx | hjx <;> omega)]
    exact (oHR_c h he hi).2.2
  · rw [eNd] at he
    rw [eB] at j2
    have hB9x := hB9 ex he
    by_cases hc : ex = eN ∧ jx = bN ∧ kx = kN
    · obtain ⟨rfl, rfl, rfl⟩ := hc
      obtain rfl : rk = rN := by omega
      rw [o_up_at, updF_at]
    · rw [uU _ _ (by omega), updF_ne (by rcases (show ex < eN ∨ ex = eN ∨ eN < ex by omega) with hjx | hjx | hjx <;> omega)]
      exact oHR_r h he j1 j2 hk
theorem oHR_upP {σ : oM} {hC iN : Nat} {A : Nat → Int} {tx : Int} (h : oHR σ hC A) (hN6 : nEd A ≤ 6) (hM20 : nLn A ≤ 20) (hB9 : ∀ ex, ex < nEd A → nBr A ex ≤ 99) (hiN : iN < 6) : oHR (o_up σ (hC + 82) (iN) (tx)) hC (updF A (11 + iN) (tx)) := by
  have hcp := h
  obtain ⟨h0, h5, h7, h3, h4, -, -⟩ := hcp
  have eNd : nEd (updF A (11 + iN) (tx)) = nEd A := by
    unfold nEd
    rw [updF_ne (by omega)]
  have eM : nLn (updF A (11 + iN) (tx)) = nLn A := by
    unfold nLn
    rw [updF_ne (by omega)]
  have eB : ∀ ex, nBr (updF A (11 + iN) (tx)) ex = nBr A ex := fun ex => by
    unfold nBr
    rw [updF_ne (by omega)]
  have uU : ∀ x y, ¬ (x = hC + 82 ∧ y = iN) → (o_up σ (hC + 82) (iN) (tx)) x y = σ x y := fun x y hxy => by
    unfold o_up
    rw [if_neg hxy]
  refine oHR_mk ?_ ?_ ?_ (fun wx hw => ?_) (fun wx hw => ?_) (fun ix hi => ?_) (fun lx hl fk kx hk => ?_) (fun ex he => ?_) (fun ex he => ?_) (fun ex he => ?_) (fun ex he ix hi => ?_) (fun ex he ix hi => ?_) (fun ex he ix hi => ?_) (fun ex he jx j1 j2 rk kx hk => ?_)
  · rw [uU _ _ (by omega), eNd]
    exact h0
  · rw [uU _ _ (by omega), eM]
    exact h5
  · rw [uU _ _ (by omega), updF_ne (by omega)]
    exact h7
  · rw [uU _ _ (by omega), updF_ne (by omega)]
    exact (h3 wx hw).1
  · rw [uU _ _ (by omega), updF_ne (by omega)]
    exact (h3 wx hw).2
  · by_cases hc : ix = iN
    · subst hc
      rw [o_up_at, updF_at]
    · rw [uU _ _ (by omega), updF_ne (by omega)]
      exact h4 ix hi
  · rw [eM] at hl
    rw [uU _ _ (by omega), updF_ne (by omega)]
    exact oHR_l h hl hk
  · rw [eNd] at he
    rw [uU _ _ (by omega), updF_ne (by omega)]
    exact (oHR_e h he).1
  · rw [eNd] at he
    rw [uU _ _ (by omega), updF_ne (by omega)]
    exact (oHR_e h he).2.1
  · rw [eNd] at he
    rw [uU _ _ (by omega), eB]
    exact (oHR_e h he).2.2
  · rw [eNd] at he
    rw [uU _ _ (by omega), updF_ne (by omega), updF_ne (by omega), updF_ne (by omega)]
    exact (oHR_c h he hi).1
  · rw [eNd] at he
    rw [uU _ _ (by omega), updF_ne (by omega)]
    exact (oHR_c h he hi).2.1
  · rw [eNd] at he
    rw [uU _ _ (by omega), updF_ne (by omega)]
    exact (oHR_c h he hi).2.2
  · rw [eNd] at he
    rw [eB] at j2
    have hB9x := hB9 ex he
    rw [uU _ _ (by omega), updF_ne (by omega)]
    exact oHR_r h he j1 j2 hk
theorem oHR_upD {σ : oM} {hC : Nat} {A : Nat → Int} {tx : Int} (h : oHR σ hC A) (hN6 : nEd A ≤ 6) (hM20 : nLn A ≤ 20) (hB9 : ∀ ex, ex < nEd A → nBr A ex ≤ 99)  : oHR (o_up σ (hC) (7) (tx)) hC (updF A (2) (tx)) := by
  have hcp := h
  obtain ⟨h0, h5, h7, h3, h4, -, -⟩ := hcp
  have eNd : nEd (updF A (2) (tx)) = nEd A := by
    unfold nEd
    rw [updF_ne (by omega)]
  have eM : nLn (updF A (2) (tx)) = nLn A := by
    unfold nLn
    rw [updF_ne (by omega)]
  have eB : ∀ ex, nBr (updF A (2) (tx)) ex = nBr A ex := fun ex => by
    unfold nBr
    rw [updF_ne (by omega)]
  have uU : ∀ x y, ¬ (x = hC ∧ y = 7) → (o_up σ (hC) (7) (tx)) x y = σ x y := fun x y hxy => by
    unfold o_up
    rw [if_neg hxy]
  refine oHR_mk ?_ ?_ ?_ (fun wx hw => ?_) (fun wx hw => ?_) (fun ix hi => ?_) (fun lx hl fk kx hk => ?_) (fun ex he => ?_) (fun ex he => ?_) (fun ex he => ?_) (fun ex he ix hi => ?_) (fun ex he ix hi => ?_) (fun ex he ix hi => ?_) (fun ex he jx j1 j2 rk kx hk => ?_)
  · rw [uU _ _ (by omega), eNd]
    exact h0
  · rw [uU _ _ (by omega), eM]
    exact h5
  · rw [o_up_at, updF_at]
  · rw [uU _ _ (by omega), updF_ne (by omega)]
    exact (h3 wx hw).1
  · rw [uU _ _ (by omega), updF_ne (by omega)]
    exact (h3 wx hw).2
  · rw [uU _ _ (by omega), updF_ne (by omega)]
    exact h4 ix hi
  · rw [eM] at hl
    rw [uU _ _ (by omega), updF_ne (by omega)]
    exact oHR_l h hl hk
  · rw [eNd] at he
    rw [uU _ _ (by omega), updF_ne (by omega)]
    exact (oHR_e h he).1
  · rw [eNd] at he
    rw [uU _ _ (by omega), updF_ne (by omega)]
    exact (oHR_e h he).2.1
  · rw [eNd] at he
    rw [uU _ _ (by omega), eB]
    exact (oHR_e h he).2.2
  · rw [eNd] at he
    rw [uU _ _ (by omega), updF_ne (by omega), updF_ne (by omega), updF_ne (by omega)]
    exact (oHR_c h he hi).1
  · rw [eNd] at he
    rw [uU _ _ (by omega), updF_ne (by omega)]
    exact (oHR_c h he hi).2.1
  · rw [eNd] at he
    rw [uU _ _ (by omega), updF_ne (by omega)]
    exact (oHR_c h he hi).2.2
  · rw [eNd] at he
    rw [eB] at j2
    have hB9x := hB9 ex he
    rw [uU _ _ (by omega), updF_ne (by omega)]
    exact oHR_r h he j1 j2 hk
theorem oHR_upW {σ : oM} {hC wN : Nat} {A : Nat → Int} {tx : Int} (h : oHR σ hC A) (hN6 : nEd A ≤ 6) (hM20 : nLn A ≤ 20) (hB9 : ∀ ex, ex < nEd A → nBr A ex ≤ 99) (hwN : wN < 4) : oHR (o_up σ (hC + 80) (wN) (tx)) hC (updF A (3 + wN) (tx)) := by
  have hcp := h
  obtain ⟨h0, h5, h7, h3, h4, -, -⟩ := hcp
  have eNd : nEd (updF A (3 + wN) (tx)) = nEd A := by
    unfold nEd
    rw [updF_ne (by omega)]
  have eM : nLn (updF A (3 + wN) (tx)) = nLn A := by
    unfold nLn
    rw [updF_ne (by omega)]
  have eB : ∀ ex, nBr (updF A (3 + wN) (tx)) ex = nBr A ex := fun ex => by
    unfold nBr
    rw [updF_ne (by omega)]
  have uU : ∀ x y, ¬ (x = hC + 80 ∧ y = wN) → (o_up σ (hC + 80) (wN) (tx)) x y = σ x y := fun x y hxy => by
    unfold o_up
    rw [if_neg hxy]
  refine oHR_mk ?_ ?_ ?_ (fun wx hw => ?_) (fun wx hw => ?_) (fun ix hi => ?_) (fun lx hl fk kx hk => ?_) (fun ex he => ?_) (fun ex he => ?_) (fun ex he => ?_) (fun ex he ix hi => ?_) (fun ex he ix hi => ?_) (fun ex he ix hi => ?_) (fun ex he jx j1 j2 rk kx hk => ?_)
  · rw [uU _ _ (by omega), eNd]
    exact h0
  · rw [uU _ _ (by omega), eM]
    exact h5
  · rw [uU _ _ (by omega), updF_ne (by omega)]
    exact h7
  · by_cases hc : wx = wN
    · subst hc
      rw [o_up_at, updF_at]
    · rw [uU _ _ (by omega), updF_ne (by omega)]
      exact (h3 wx hw).1
  · rw [uU _ _ (by omega), updF_ne (by omega)]
    exact (h3 wx hw).2
  · rw [uU _ _ (by omega), updF_ne (by omega)]
    exact h4 ix hi
  · rw [eM] at hl
    rw [uU _ _ (by omega), updF_ne (by omega)]
    exact oHR_l h hl hk
  · rw [eNd] at he
    rw [uU _ _ (by omega), updF_ne (by omega)]
    exact (oHR_e h he).1
  · rw [eNd] at he
    rw [uU _ _ (by omega), updF_ne (by omega)]
    exact (oHR_e h he).2.1
  · rw [eNd] at he
    rw [uU _ _ (by omega), eB]
    exact (oHR_e h he).2.2
  · rw [eNd] at he
    rw [uU _ _ (by omega), updF_ne (by omega), updF_ne (by omega), updF_ne (by omega)]
    exact (oHR_c h he hi).1
  · rw [eNd] at he
    rw [uU _ _ (by omega), updF_ne (by omega)]
    exact (oHR_c h he hi).2.1
  · rw [eNd] at he
    rw [uU _ _ (by omega), updF_ne (by omega)]
    exact (oHR_c h he hi).2.2
  · rw [eNd] at he
    rw [eB] at j2
    have hB9x := hB9 ex he
    rw [uU _ _ (by omega), updF_ne (by omega)]
    exact oHR_r h he j1 j2 hk
theorem oHR_upV {σ : oM} {hC wN : Nat} {A : Nat → Int} {tx : Int} (h : oHR σ hC A) (hN6 : nEd A ≤ 6) (hM20 : nLn A ≤ 20) (hB9 : ∀ ex, ex < nEd A → nBr A ex ≤ 99) (hwN : wN < 4) : oHR (o_up σ (hC + 81) (wN) (tx)) hC (updF A (7 + wN) (tx)) := by
  have hcp := h
  obtain ⟨h0, h5, h7, h3, h4, -, -⟩ := hcp
  have eNd : nEd (updF A (7 + wN) (tx)) = nEd A := by
    unfold nEd
    rw [updF_ne (by omega)]
  have eM : nLn (updF A (7 + wN) (tx)) = nLn A := by
    unfold nLn
    rw [updF_ne (by omega)]
  have eB : ∀ ex, nBr (updF A (7 + wN) (tx)) ex = nBr A ex := fun ex => by
    unfold nBr
    rw [updF_ne (by omega)]
  have uU : ∀ x y, ¬ (x = hC + 81 ∧ y = wN) → (o_up σ (hC + 81) (wN) (tx)) x y = σ x y := fun x y hxy => by
    unfold o_up
    rw [if_neg hxy]
  refine oHR_mk ?_ ?_ ?_ (fun wx hw => ?_) (fun wx hw => ?_) (fun ix hi => ?_) (fun lx hl fk kx hk => ?_) (fun ex he => ?_) (fun ex he => ?_) (fun ex he => ?_) (fun ex he ix hi => ?_) (fun ex he ix hi => ?_) (fun ex he ix hi => ?_) (fun ex he jx j1 j2 rk kx hk => ?_)
  · rw [uU _ _ (by omega), eNd]
    exact h0
  · rw [uU _ _ (by omega), eM]
    exact h5
  · rw [uU _ _ (by omega), updF_ne (by omega)]
    exact h7
  · rw [uU _ _ (by omega), updF_ne (by omega)]
    exact (h3 wx hw).1
  · by_cases hc : wx = wN
    · subst hc
      rw [o_up_at, updF_at]
    · rw [uU _ _ (by omega), updF_ne (by omega)]
      exact (h3 wx hw).2
  · rw [uU _ _ (by omega), updF_ne (by omega)]
    exact h4 ix hi
  · rw [eM] at hl
    rw [uU _ _ (by omega), updF_ne (by omega)]
    exact oHR_l h hl hk
  · rw [eNd] at he
    rw [uU _ _ (by omega), updF_ne (by omega)]
    exact (oHR_e h he).1
  · rw [eNd] at he
    rw [uU _ _ (by omega), updF_ne (by omega)]
    exact (oHR_e h he).2.1
  · rw [eNd] at he
    rw [uU _ _ (by omega), eB]
    exact (oHR_e h he).2.2
  · rw [eNd] at he
    rw [uU _ _ (by omega), updF_ne (by omega), updF_ne (by omega), updF_ne (by omega)]
    exact (oHR_c h he hi).1
  · rw [eNd] at he
    rw [uU _ _ (by omega), updF_ne (by omega)]
    exact (oHR_c h he hi).2.1
  · rw [eNd] at he
    rw [uU _ _ (by omega), updF_ne (by omega)]
    exact (oHR_c h he hi).2.2
  · rw [eNd] at he
    rw [eB] at j2
    have hB9x := hB9 ex he
    rw [uU _ _ (by omega), updF_ne (by omega)]
    exact oHR_r h he j1 j2 hk
theorem oHR_upC {σ : oM} {hC eN iN : Nat} {A : Nat → Int} {tx : Int} (h : oHR σ hC A) (hN6 : nEd A ≤ 6) (hM20 : nLn A ≤ 20) (hB9 : ∀ ex, ex < nEd A → nBr A ex ≤ 99) (heN : eN < nEd A) (hiN : iN < 6) : oHR (o_up σ (hC + 2 + 13 * eN + 10) (iN) (tx - A (181 + 813 * eN + 3 * iN) - A (182 + 813 * eN + 3 * iN))) hC (updF A (180 + 813 * eN + 3 * iN) (tx)) := by
  have hcp := h
  obtain ⟨h0, h5, h7, h3, h4, -, -⟩ := hcp
  have eNd : nEd (updF A (180 + 813 * eN + 3 * iN) (tx)) = nEd A := by
    unfold nEd
    rw [updF_ne (by omega)]
  have eM : nLn (updF A (180 + 813 * eN + 3 * iN) (tx)) = nLn A := by
    unfold nLn
    rw [updF_ne (by omega)]
  have eB : ∀ ex, nBr (updF A (180 + 813 * eN + 3 * iN) (tx)) ex = nBr A ex := fun ex => by
    unfold nBr
    rw [updF_ne (by rcases (show ex < eN ∨ ex = eN ∨ eN < ex by omega) with hjx | hjx | hjx <;> omega)]
  have uU : ∀ x y, ¬ (x = hC + 2 + 13 * eN + 10 ∧ y = iN) → (o_up σ (hC + 2 + 13 * eN + 10) (iN) (tx - A (181 + 813 * eN + 3 * iN) - A (182 + 813 * eN + 3 * iN))) x y = σ x y := fun x y hxy => by
    unfold o_up
    rw [if_neg hxy]
  refine oHR_mk ?_ ?_ ?_ (fun wx hw => ?_) (fun wx hw => ?_) (fun ix hi => ?_) (fun lx hl fk kx hk => ?_) (fun ex he => ?_) (fun ex he => ?_) (fun ex he => ?_) (fun ex he ix hi => ?_) (fun ex he ix hi => ?_) (fun ex he ix hi => ?_) (fun ex he jx j1 j2 rk kx hk => ?_)
  · rw [uU _ _ (by omega), eNd]
    exact h0
  · rw [uU _ _ (by omega), eM]
    exact h5
  · rw [uU _ _ (by omega), updF_ne (by omega)]
    exact h7
  · rw [uU _ _ (by omega), updF_ne (by omega)]
    exact (h3 wx hw).1
  · rw [uU _ _ (by omega), updF_ne (by omega)]
    exact (h3 wx hw).2
  · rw [uU _ _ (by omega), updF_ne (by omega)]
    exact h4 ix hi
  · rw [eM] at hl
    rw [uU _ _ (by omega), updF_ne (by omega)]
    exact oHR_l h hl hk
  · rw [eNd] at he
    rw [uU _ _ (by omega), updF_ne (by rcases (show ex < eN ∨ ex = eN ∨ eN < ex by omega) with hjx | hjx | hjx <;> omega)]
    exact (oHR_e h he).1
  · rw [eNd] at he
    rw [uU _ _ (by omega), updF_ne (by rcases (show ex < eN ∨ ex = eN ∨ eN < ex by omega) with hjx | hjx | hjx <;> omega)]
    exact (oHR_e h he).2.1
  · rw [eNd] at he
    rw [uU _ _ (by omega), eB]
    exact (oHR_e h he).2.2
  · rw [eNd] at he
    by_cases hc : ex = eN ∧ ix = iN
    · obtain ⟨rfl, rfl⟩ := hc
      rw [o_up_at, updF_at, updF_ne (by omega), updF_ne (by omega)]
    · rw [uU _ _ (by omega), updF_ne (by rcases (show ex < eN ∨ ex = eN ∨ eN < ex by omega) with hjx | hjx | hjx <;> omega), updF_ne (by rcases (show ex < eN ∨ ex = eN ∨ eN < ex by omega) with hjx | hjx | hjx <;> omega), updF_ne (by rcases (show ex < eN ∨ ex = eN ∨ eN < ex by omega) with hjx | hjx | hjx <;> omega)]
      exact (oHR_c h he hi).1
  · rw [eNd] at he
    rw [uU _ _ (by omega), updF_ne (by rcases (show ex < eN ∨ ex = eN ∨ eN < ex by omega) with hjx | hjx | hjx <;> omega)]
    exact (oHR_c h he hi).2.1
  · rw [eNd] at he
    rw [uU _ _ (by omega), updF_ne (by rcases (show ex < eN ∨ ex = eN ∨ eN < ex by omega) with hjx | hjx | hjx <;> omega)]
    exact (oHR_c h he hi).2.2
  · rw [eNd] at he
    rw [eB] at j2
    have hB9x := hB9 ex he
    rw [uU _ _ (by omega), updF_ne (by rcases (show ex < eN ∨ ex = eN ∨ eN < ex by omega) with hjx | hjx | hjx <;> omega)]
    exact oHR_r h he j1 j2 hk
