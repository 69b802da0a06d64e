/-! works without editions have no version: kept by every change -/
theorem oJ_out {A A2 : Nat → Int} (h : oJ A) (hn : nEd A ≤ 6) (h0 : A2 0 = A 0) (h1 : ∀ wx, wx < 4 → A2 (7 + wx) = A (7 + wx)) (h2 : ∀ ex, ex < 6 → A2 (177 + 813 * ex) = A (177 + 813 * ex)) : oJ A2 :=
  oJ_same h (by unfold nEd; rw [h0]) (fun ex he => h2 ex (by omega)) h1
theorem oJ_upd {A : Nat → Int} {x : Nat} {v : Int} (h : oJ A) (hn : nEd A ≤ 6) (h0 : x ≠ 0) (h1 : x < 7 ∨ 11 ≤ x) (h2 : ∀ ex, ex < 6 → x ≠ 177 + 813 * ex) : oJ (updF A x v) :=
  oJ_out h hn (updF_ne (by omega)) (fun wx hw => updF_ne (by omega)) (fun ex he => updF_ne (fun hc => h2 ex he hc.symm))
theorem blk {eN kx ex : Nat} (h1 : 1 ≤ kx) (h2 : kx < 813) : 177 + 813 * eN + kx ≠ 177 + 813 * ex := by
  rcases (show eN < ex ∨ eN = ex ∨ ex < eN by omega) with q | q | q <;> omega
theorem lendA_J {A : Nat → Int} {lN eN iN : Nat} {bo cx dx : Int} (h : oJ A) (hn : nEd A ≤ 6) (hl : lN < 20) (hi : iN < 6) : oJ (lendA A lN eN iN bo cx dx) := by
  refine oJ_out h hn (lendA_ne (by omega) (by omega) (by omega)) (fun wx hw => lendA_ne (by omega) (by omega) (by omega)) (fun ex he => lendA_ne (by omega) (by omega) (fun hc => ?_))
  exact blk (eN := eN) (kx := 4 + 3 * iN) (ex := ex) (by omega) (by omega) (by omega)
theorem fTempo_J {A : Nat → Int} {Bd z v w : Int} (h : oJ A) (hI : oI Bd A) : oJ (fTempo A z v w).2 := by
  have hn := (oI_n hI).2.2.1
  unfold fTempo
  by_cases h1 : isBrF A z v
  · obtain ⟨eN, bN, rfl, rfl, g1, g2, g3, g4, g5⟩ := isBr_n hI h1
    rw [if_pos h1, Int.toNat_natCast, Int.toNat_natCast]
    by_cases h2 : w ≠ 0 ∧ ¬ (200 ≤ w ∧ w ≤ 2500)
    · rw [if_pos h2]
      exact h
    · rw [if_neg h2]
      exact oJ_upd h hn (by omega) (by omega) (fun ex he hc => blk (eN := eN) (kx := 16 + 8 * bN) (ex := ex) (by omega) (by omega) (by omega))
  · rw [if_neg h1]
    exact h
theorem fBow_J {A : Nat → Int} {Bd z v u w : Int} (h : oJ A) (hI : oI Bd A) : oJ (fBow A z v u w).2 := by
  have hn := (oI_n hI).2.2.1
  unfold fBow
  by_cases h1 : isBrF A z u ∧ 0 ≤ v ∧ v ≤ 3
  · obtain ⟨eN, bN, rfl, rfl, g1, g2, g3, g4, g5⟩ := isBr_n hI h1.1
    rw [if_pos h1, Int.toNat_natCast, Int.toNat_natCast]
    by_cases h2 : 0 ≤ w ∧ w ≤ 4
    · rw [if_pos h2]
      exact oJ_upd h hn (by omega) (by omega) (fun ex he hc => blk (eN := eN) (kx := 17 + 8 * bN + v.toNat) (ex := ex) (by omega) (by omega) (by omega))
    · rw [if_neg h2]
      exact h
  · rw [if_neg h1]
    exact h
theorem fSeat_J {A : Nat → Int} {Lh : List (Nat → Int)} {Bd z v : Int} (h : oJ A) (hI : oI Bd A) : oJ (fSeat A Lh z v).2.1 := by
  have hn := (oI_n hI).2.2.1
  unfold fSeat
  by_cases h1 : 0 ≤ z ∧ z ≤ 5
  · rw [if_pos h1]
    by_cases h2 : 0 ≤ v ∧ v ≤ 20
    · rw [if_pos h2]
      exact oJ_upd h hn (by omega) (by omega) (fun ex he => by omega)
    · rw [if_neg h2]
      exact h
  · rw [if_neg h1]
    exact h
theorem fPass_J {A : Nat → Int} {Lh : List (Nat → Int)} {Bd z : Int} (h : oJ A) (hI : oI Bd A) : oJ (fPass A Lh z).2.1 := by
  have hn := (oI_n hI).2.2.1
  unfold fPass
  by_cases h1 : 1 ≤ z ∧ z ≤ 999
  · rw [if_pos h1]
    by_cases h2 : 9999 < A 2 + z
    · rw [if_pos h2]
      exact h
    · rw [if_neg h2]
      exact oJ_upd h hn (by omega) (by omega) (fun ex he => by omega)
  · rw [if_neg h1]
    exact h
theorem fBuy_J {A : Nat → Int} {Lh : List (Nat → Int)} {Bd z v w : Int} (h : oJ A) (hI : oI Bd A) : oJ (fBuy A Lh z v w).2.1 := by
  have hn := (oI_n hI).2.2.1
  unfold fBuy
  by_cases h1 : isEdF A z ∧ 0 ≤ v ∧ v ≤ 5
  · rw [if_pos h1]
    by_cases h2 : 1 ≤ w ∧ w ≤ 30
    · rw [if_pos h2]
      by_cases h3 : 30 < A (180 + 813 * z.toNat + 3 * v.toNat) + w
      · rw [if_pos h3]
        exact h
      · rw [if_neg h3]
        exact oJ_upd h hn (by omega) (by omega) (fun ex he hc => blk (eN := z.toNat) (kx := 3 + 3 * v.toNat) (ex := ex) (by omega) (by omega) (by omega))
    · rw [if_neg h2]
      exact h
  · rw [if_neg h1]
    exact h
theorem fCut_J {A : Nat → Int} {Bd rf z v w : Int} (h : oJ A) (hI : oI Bd A) : oJ (fCut A rf z v w).2.1 := by
  have hn := (oI_n hI).2.2.1
  unfold fCut
  by_cases h1 : isBrF A z v ∧ isBrF A z w
  · rw [if_pos h1]
    obtain ⟨eN, bN, rfl, rfl, g1, g2, g3, g4, g5⟩ := isBr_n hI h1.1
    have hw := h1.2.2
    rw [Int.toNat_natCast] at hw
    simp only [Int.toNat_natCast]
    by_cases h2 : w < (bN : Int) ∨ A (178 + 813 * eN) ≤ w - (bN : Int) + 1
    · rw [if_pos h2]
      exact h
    · rw [if_neg h2]
      by_cases h3 : 0 < boughtF A eN
      · rw [if_pos h3]
        exact h
      · rw [if_neg h3]
        exact oJ_out h hn (cutA_ne (by omega) (by omega)) (fun wx hw2 => cutA_ne (by omega) (by omega)) (fun ex he => cutA_ne (fun hc => blk (eN := eN) (kx := 1) (ex := ex) (by omega) (by omega) (by omega)) (by rcases (show ex < eN ∨ ex = eN ∨ eN < ex by omega) with q | q | q <;> omega))
  · rw [if_neg h1]
    exact h
theorem fIns_J {A : Nat → Int} {Bd rf z v w u : Int} (h : oJ A) (hI : oI Bd A) : oJ (fIns A rf z v w u).2.1 := by
  have hn := (oI_n hI).2.2.1
  unfold fIns
  by_cases h1 : isEdF A z ∧ 0 ≤ v ∧ v ≤ A (178 + 813 * z.toNat)
  · rw [if_pos h1]
    obtain ⟨eN, rfl, g1, g2⟩ := isEd_n hI h1.1
    have hIE := oI_b hI g1
    have hv := h1.2
    simp only [Int.toNat_natCast] at hv ⊢
    by_cases h2 : (1 ≤ w ∧ w ≤ 99) ∧ (1 ≤ u ∧ u ≤ 9)
    · rw [if_pos h2]
      by_cases h3 : 99 < A (178 + 813 * eN) + w
      · rw [if_pos h3]
        exact h
      · rw [if_neg h3]
        by_cases h4 : 0 < boughtF A eN
        · rw [if_pos h4]
          exact h
        · rw [if_neg h4]
          have hw := hIE.1.1
          have hww : (A (177 + 813 * eN)).toNat < 4 := by omega
          exact oJ_out h hn (insA_ne (by omega) (by omega) (by omega)) (fun wx hw2 => insA_ne (by omega) (by omega) (by omega)) (fun ex he => insA_ne (fun hc => blk (eN := eN) (kx := 1) (ex := ex) (by omega) (by omega) (by omega)) (by omega) (by rcases (show ex < eN ∨ ex = eN ∨ eN < ex by omega) with q | q | q <;> omega))
    · rw [if_neg h2]
      exact h
  · rw [if_neg h1]
    exact h
theorem fRew_J {A : Nat → Int} {Bd rf z v w : Int} (h : oJ A) (hI : oI Bd A) : oJ (fRew A rf z v w).2.1 := by
  have hn := (oI_n hI).2.2.1
  unfold fRew
  by_cases h1 : isBrF A z v
  · rw [if_pos h1]
    obtain ⟨eN, bN, rfl, rfl, g1, g2, g3, g4, g5⟩ := isBr_n hI h1
    simp only [Int.toNat_natCast]
    by_cases h2 : 1 ≤ w ∧ w ≤ 9
    · rw [if_pos h2]
      by_cases h3 : 0 < boughtF A eN
      · rw [if_pos h3]
        exact h
      · rw [if_neg h3]
        have hw := (oI_b hI g1).1.1
        obtain ⟨wN, hwn⟩ : ∃ wN : Nat, A (177 + 813 * eN) = (wN : Int) := ⟨(A (177 + 813 * eN)).toNat, by omega⟩
        rw [hwn, Int.toNat_natCast]
        intro wx hx hc
        have hne : ∀ ex, ex < 6 → updF (updF (updF A (7 + wN) (A (7 + wN) + 1)) (191 + 813 * eN + 8 * bN) (A (7 + wN) + 1)) (192 + 813 * eN + 8 * bN) w (177 + 813 * ex) = A (177 + 813 * ex) := fun ex he => by
          rw [updF_ne (fun q => blk (eN := eN) (kx := 15 + 8 * bN) (ex := ex) (by omega) (by omega) (by omega)), updF_ne (fun q => blk (eN := eN) (kx := 14 + 8 * bN) (ex := ex) (by omega) (by omega) (by omega)), updF_ne (by omega)]
        have hn2 : nEd (updF (updF (updF A (7 + wN) (A (7 + wN) + 1)) (191 + 813 * eN + 8 * bN) (A (7 + wN) + 1)) (192 + 813 * eN + 8 * bN) w) = nEd A := by
          unfold nEd
          rw [updF_ne (by omega), updF_ne (by omega), updF_ne (by omega)]
        have hwx : wx ≠ wN := fun q => hc eN (Nat.lt_of_lt_of_eq g1 hn2.symm) ((hne eN g2).trans (by rw [hwn, q]))
        show updF (updF (updF A (7 + wN) (A (7 + wN) + 1)) (191 + 813 * eN + 8 * bN) (A (7 + wN) + 1)) (192 + 813 * eN + 8 * bN) w (7 + wx) = 0
        rw [updF_ne (by omega), updF_ne (by omega), updF_ne (by omega)]
        exact h wx hx (fun ex he q3 => hc ex (Nat.lt_of_lt_of_eq he hn2.symm) ((hne ex (by omega)).trans q3))
    · rw [if_neg h2]
      exact h
  · rw [if_neg h1]
    exact h
theorem fLend_J {A : Nat → Int} {Bd rf z v w u d : Int} (h : oJ A) (hI : oI Bd A) : oJ (fLend A rf z v w u d).2.1 := by
  have hn := (oI_n hI).2.2.1
  have hl := hI.2.2.1
  unfold fLend
  by_cases h1 : (0 ≤ z ∧ z ≤ 5) ∧ isEdF A v ∧ (0 ≤ w ∧ w ≤ 5)
  · rw [if_pos h1]
    by_cases h2 : (1 ≤ u ∧ u ≤ 30) ∧ (0 ≤ d ∧ d ≤ 999)
    · rw [if_pos h2]
      by_cases h3 : inF A v.toNat w.toNat < u
      · rw [if_pos h3]
        exact h
      · rw [if_neg h3]
        by_cases h4 : 0 < owesF A z 3
        · rw [if_pos h4]
          exact h
        · rw [if_neg h4]
          by_cases h5 : 20 ≤ A 1
          · rw [if_pos h5]
            exact h
          · rw [if_neg h5]
            exact lendA_J h hn (by omega) (by omega)
    · rw [if_neg h2]
      exact h
  · rw [if_neg h1]
    exact h
theorem fBring_J {A : Nat → Int} {Bd rf z v w : Int} (h : oJ A) (hI : oI Bd A) : oJ (fBring A rf z v w).2.1 := by
  have hn := (oI_n hI).2.2.1
  have hln := hI.2.2.1
  unfold fBring
  by_cases h1 : isLnF A z
  · rw [if_pos h1]
    by_cases h2 : (0 ≤ v ∧ v ≤ 30) ∧ (0 ≤ w ∧ w ≤ 30) ∧ v + w ≠ 0
    · rw [if_pos h2]
      by_cases h3 : A (21 + 8 * z.toNat) < v + w
      · rw [if_pos h3]
        exact h
      · rw [if_neg h3]
        have hlo := hI.2.2.2.2.2.2.1 z.toNat (by unfold nLn; omega)
        have hi6 : (A (19 + 8 * z.toNat)).toNat < 6 := by omega
        exact oJ_out h hn (brgA_ne (by omega) (by omega)) (fun wx hw => brgA_ne (by omega) (by omega)) (fun ex he => brgA_ne (by omega) ⟨fun hc => blk (eN := (A (18 + 8 * z.toNat)).toNat) (kx := 4 + 3 * (A (19 + 8 * z.toNat)).toNat) (ex := ex) (by omega) (by omega) (by omega), fun hc => blk (eN := (A (18 + 8 * z.toNat)).toNat) (kx := 5 + 3 * (A (19 + 8 * z.toNat)).toNat) (ex := ex) (by omega) (by omega) (by omega)⟩)
    · rw [if_neg h2]
      exact h
  · rw [if_neg h1]
    exact h
