theorem fRew_I {Bd : Int} {A : Nat → Int} {rf z v w : Int} (hI : oI Bd A) (hBd : Bd ≤ 99999999) : oI (Bd + 1) (fRew A rf z v w).2.1 := by
  have hJ0 := oI_grow hI (B2 := Bd + 1) (by omega) (by omega)
  unfold fRew
  by_cases h1 : isBrF A z v
  · rw [if_pos h1]
    obtain ⟨eN, bN, rfl, rfl, heN, g2, hbN1, hbN2, g5⟩ := isBr_n hI h1
    by_cases h2 : 1 ≤ w ∧ w ≤ 9
    · rw [if_pos h2, Int.toNat_natCast, Int.toNat_natCast]
      by_cases h3 : 0 < boughtF A eN
      · rw [if_pos h3]
        exact hJ0
      · rw [if_neg h3]
        have hIE := oI_b hI heN
        obtain ⟨wN, hwn⟩ : ∃ wN : Nat, A (177 + 813 * eN) = (wN : Int) := ⟨(A (177 + 813 * eN)).toNat, by have := hIE.1.1; omega⟩
        have hw4 : wN < 4 := by have := hIE.1.1; omega
        rw [hwn, Int.toNat_natCast]
        have hgb := (hI.2.2.2.2.1 wN hw4).2
        have hJ1 := oI_upV (wN := wN) (tx := (A (7 + wN) + 1)) hJ0 hw4 (by omega)
        have hne1 : nEd (updF A (7 + wN) (A (7 + wN) + 1)) = nEd A := by
          unfold nEd
          rw [updF_ne (by omega)]
        have hJ2 := oI_upB (bN := bN) (kN := 1) (tx := (A (7 + wN) + 1)) hJ1 (by rw [hne1]; exact heN) hbN1 (by omega) (by omega) (by omega) (fun _ => by omega) (fun hc => by omega) (fun hc => by omega) (fun hc => by omega)
        rw [show 190 + 813 * eN + 8 * bN + 1 = 191 + 813 * eN + 8 * bN by omega] at hJ2
        have hne2 : nEd (updF (updF A (7 + wN) (A (7 + wN) + 1)) (191 + 813 * eN + 8 * bN) (A (7 + wN) + 1)) = nEd A := by
          rw [← hne1]
          unfold nEd
          rw [updF_ne (by omega)]
        have hJ3 := oI_upB (bN := bN) (kN := 2) (tx := w) hJ2 (by rw [hne2]; exact heN) hbN1 (by omega) (by omega) (by omega) (fun hc => by omega) (fun _ => by omega) (fun hc => by omega) (fun hc => by omega)
        rw [show 190 + 813 * eN + 8 * bN + 2 = 192 + 813 * eN + 8 * bN by omega] at hJ3
        exact hJ3
    · rw [if_neg h2]
      exact hJ0
  · rw [if_neg h1]
    exact hJ0
