set_option maxRecDepth 20000 in
set_option maxHeartbeats 8000000 in
theorem c_X8_overdue {T : oT} {σ : oM} {xC : Nat} {A : Nat → Int} {Bd : Int} (hX : oX T xC) (hR : oHR σ (xC + 1) A) (hI : oI Bd A) {z : Int} (hz : o_r z) : MS yX8_overdue cX8_overdue 2 (some FieldType.int) 3 0 0 67 [og xC, oi z] T σ (oP1 (oi (fOverdue A z)) T σ) := by
  have hXc := hX
  obtain ⟨hX0, hXr0, hXr1, hXr2, hXr3, hXr4, hXr5, hXr6, hXn, hXs, hXy, hXq, hXk, hXb, hXbs, hXi, hXT⟩ := hXc
  have hHc := hXn
  obtain ⟨hH0, hH1, hH2, hH3, hH4, hH6, hG1, hG80, hG81, hG82, hG83, hEs, hLs, hHT⟩ := hHc
  have hRc := hR
  obtain ⟨hR0, hR5, hR7, hRw8, hRp, hRl, hRe⟩ := hRc
  have hIn := oI_n hI
  have hIc := hI
  obtain ⟨hI1, hI2, hI3, hI4, hI5, hI6, hI7, hI8, -⟩ := hIc
  refine o_met (by decide +kernel) (Nat.le_of_ble_eq_true rfl) (fun p l ee s m args below meth c G b C hr hn => ?_)
  have C : oCx p s m args meth c G b RX8 cX8_overdue 2 := C
  show oW p l ee ({ frames := 3, cells := 0, slots := 0, locals := 67 } : Room) s m args below meth c G b 2 0 0 (MQ below (o_Qc G b (oP1 (oi (fOverdue A z)) T σ)) args s 0 0 (fun q => b ≤ q)) T σ 0 [some (og xC), some (oi z)] []
  refine r_il1 (q := 1) C dX8_overdue_0 rfl ?_
  refine r_ifge (q := 8) (q2 := 4) C (by omega) dX8_overdue_1 (by decide) rfl (fun br1 => ?_) (fun br1 => ?_)
  · have hrg : ∀ jx, jx < nLn A → o_r (σ (xC + 1 + 84 + jx) 0) ∧ o_r (σ (xC + 1 + 84 + jx) 4) ∧ o_r (σ (xC + 1 + 84 + jx) 6) := fun jx hj => by
      have h1 := hRl jx hj
      have h2 := hI7 jx hj
      obtain ⟨g0, g1, g2, g3, g4, g5, g6, g7⟩ := h1
      rw [g0, g4, g6]
      omega
    have hdy : o_r (σ (xC + 1) 7) := by omega
    have hah : ∀ ix, ix < nLn A → ahF (fun jx => σ (xC + 1 + 84 + jx) 4) (fun jx => σ (xC + 1 + 84 + jx) 6) (σ (xC + 1) 7) (nLn A) ix = ahF (fun jx => A (21 + 8 * jx)) (fun jx => A (22 + 8 * jx)) (A 2) (nLn A) ix := fun ix hix => by
      unfold ahF
      refine sumF_congr (fun j hj => ?_)
      have g1 := hRl j hj
      have g2 := hRl ix hix
      simp only [g1.2.2.2.2.1, g1.2.2.2.2.2.2.1, g2.2.2.2.2.2.2.1, hR7]
    have hfc := findF_congr (P := (fun ix => ovF (σ (xC + 1 + 84 + ix) 4) (σ (xC + 1 + 84 + ix) 6) (σ (xC + 1) 7) && decide ((ahF (fun jx => σ (xC + 1 + 84 + jx) 4) (fun jx => σ (xC + 1 + 84 + jx) 6) (σ (xC + 1) 7) (nLn A) ix) = z))) (Q := (fun ix => ovA A ix && decide (ahF (fun jx => A (21 + 8 * jx)) (fun jx => A (22 + 8 * jx)) (A 2) (nLn A) ix = z))) (n := nLn A) (jx := 0) (fun ix _ h2 => by
      have g1 := hRl ix (by omega)
      try simp only
      rw [hah ix (by omega), g1.2.2.2.2.1, g1.2.2.2.2.2.2.1, hR7]
      rfl)
    refine r_al0 (q := 9) C dX8_overdue_8 rfl ?_
    refine r_getR (q := 12) C f_X8_10 dX8_overdue_9 rfl rfl (by assumption) (by assumption) (by omega) ?_
    refine r_il1 (q := 13) C dX8_overdue_12 rfl ?_
    refine r_callV1 (q := 16) C (c_X6_overdueLoanAt hXn hR5 hIn.2.2.2 hz hrg hdy) m_X8_350 (by assumption) (by omega) dX8_overdue_13 rfl rfl (by decide) (by decide) (Nat.le_of_ble_eq_true rfl) ?_
    rw [hfc]
    exact r_iret C hr dX8_overdue_16 (by decide) (by decide) ⟨by rw [fOverdue, if_neg (by omega)], rfl, rfl⟩
  · refine r_iconst (q := 5) C dX8_overdue_4 rfl ?_
    refine r_goto (q := 16) C dX8_overdue_5 (by decide) ?_
    exact r_iret C hr dX8_overdue_16 (by decide) (by decide) ⟨by rw [fOverdue, if_pos (by omega)], rfl, rfl⟩
set_option maxRecDepth 20000 in
set_option maxHeartbeats 8000000 in
theorem c_X8_borrower {T : oT} {σ : oM} {xC : Nat} {A : Nat → Int} {Bd : Int} (hX : oX T xC) (hR : oHR σ (xC + 1) A) (hI : oI Bd A) {z v : Int} (hz : o_r z) (hv : o_r v) : MS yX8_borrower cX8_borrower 3 (some FieldType.int) 3 0 0 67 [og xC, oi z, oi v] T σ (oP1 (oi (fBorrower A z v)) T σ) := by
  have hXc := hX
  obtain ⟨hX0, hXr0, hXr1, hXr2, hXr3, hXr4, hXr5, hXr6, hXn, hXs, hXy, hXq, hXk, hXb, hXbs, hXi, hXT⟩ := hXc
  have hHc := hXn
  obtain ⟨hH0, hH1, hH2, hH3, hH4, hH6, hG1, hG80, hG81, hG82, hG83, hEs, hLs, hHT⟩ := hHc
  have hRc := hR
  obtain ⟨hR0, hR5, hR7, hRw8, hRp, hRl, hRe⟩ := hRc
  have hIn := oI_n hI
  have hIc := hI
  obtain ⟨hI1, hI2, hI3, hI4, hI5, hI6, hI7, hI8, -⟩ := hIc
  refine o_met (by decide +kernel) (Nat.le_of_ble_eq_true rfl) (fun p l ee s m args below meth c G b C hr hn => ?_)
  have C : oCx p s m args meth c G b RX8 cX8_borrower 3 := C
  show oW p l ee ({ frames := 3, cells := 0, slots := 0, locals := 67 } : Room) s m args below meth c G b 3 0 0 (MQ below (o_Qc G b (oP1 (oi (fBorrower A z v)) T σ)) args s 0 0 (fun q => b ≤ q)) T σ 0 [some (og xC), some (oi z), some (oi v)] []
  refine r_il1 (q := 1) C dX8_borrower_0 rfl ?_
  refine r_callSb (q := 4) C (c_X8_isBorrower (by omega)) m_X8_286 dX8_borrower_1 rfl rfl (by decide) (by decide) (Nat.le_of_ble_eq_true rfl) (fun br1 => ?_) (fun br1 => ?_)
  · refine r_ifeq_f (q := 16) (q2 := 7) C (by decide) (by omega) dX8_borrower_4 (by decide) rfl ?_
    refine r_il2 (q := 8) C dX8_borrower_7 rfl ?_
    refine r_iconst (q := 9) C dX8_borrower_8 rfl ?_
    refine r_iconst (q := 10) C dX8_borrower_9 rfl ?_
    refine r_callSb (q := 13) C (c_X8_within hv (by omega) (by omega)) m_X8_68 dX8_borrower_10 rfl rfl (by decide) (by decide) (Nat.le_of_ble_eq_true rfl) (fun br10 => ?_) (fun br10 => ?_)
    · refine r_ifne_t (q := 18) C (by decide) (by omega) dX8_borrower_13 (by decide) ?_
      have hrg : ∀ jx, jx < nLn A → o_r (σ (xC + 1 + 84 + jx) 0) ∧ o_r (σ (xC + 1 + 84 + jx) 4) ∧ o_r (σ (xC + 1 + 84 + jx) 6) := fun jx hj => by
        have h1 := hRl jx hj
        have h2 := hI7 jx hj
        obtain ⟨g0, g1, g2, g3, g4, g5, g6, g7⟩ := h1
        rw [g0, g4, g6]
        omega
      have hdy : o_r (σ (xC + 1) 7) := by omega
      have hsf : sumF (fun jx => if σ (xC + 1 + 84 + jx) 0 = z then (if v = 0 then σ (xC + 1 + 84 + jx) 4 else if v = 1 then σ (xC + 1 + 84 + jx) 5 else if v = 2 then σ (xC + 1 + 84 + jx) 7 else if 0 < σ (xC + 1 + 84 + jx) 4 ∧ σ (xC + 1 + 84 + jx) 6 < σ (xC + 1) 7 then 1 else 0) else 0) (nLn A) = owesF A z v := sumF_congr (fun j hj => by
        obtain ⟨g0, g1, g2, g3, g4, g5, g6, g7⟩ := hRl j hj
        try simp only
        rw [g0, g4, g5, g6, g7, hR7])
      refine r_al0 (q := 19) C dX8_borrower_18 rfl ?_
      refine r_getR (q := 22) C f_X8_10 dX8_borrower_19 rfl rfl (by assumption) (by assumption) (by omega) ?_
      refine r_il1 (q := 23) C dX8_borrower_22 rfl ?_
      refine r_il2 (q := 24) C dX8_borrower_23 rfl ?_
      refine r_callV1 (q := 27) C (c_X6_sumOfLoans hXn hR5 hIn.2.2.2 hz hv hrg hdy) m_X8_289 (by assumption) (by omega) dX8_borrower_24 rfl rfl (by decide) (by decide) (Nat.le_of_ble_eq_true rfl) ?_
      rw [hsf]
      exact r_iret C hr dX8_borrower_27 (by decide) (by decide) ⟨by rw [fBorrower, if_pos ⟨br1, br10⟩], rfl, rfl⟩
    · refine r_ifne_f (q := 18) (q2 := 16) C (by decide) (by omega) dX8_borrower_13 (by decide) rfl ?_
      refine r_iconst (q := 17) C dX8_borrower_16 rfl ?_
      exact r_iret C hr dX8_borrower_17 (by decide) (by decide) ⟨by rw [fBorrower, if_neg (fun hc => br10 hc.2)], rfl, rfl⟩
  · refine r_ifeq_t (q := 16) C (by decide) (by omega) dX8_borrower_4 (by decide) ?_
    refine r_iconst (q := 17) C dX8_borrower_16 rfl ?_
    exact r_iret C hr dX8_borrower_17 (by decide) (by decide) ⟨by rw [fBorrower, if_neg (fun hc => br1 hc.1)], rfl, rfl⟩
set_option maxRecDepth 20000 in
set_option maxHeartbeats 8000000 in
theorem c_X8_loan {T : oT} {σ : oM} {xC : Nat} {A : Nat → Int} {Bd : Int} (hX : oX T xC) (hR : oHR σ (xC + 1) A) (hI : oI Bd A) {z v : Int} (hz : o_r z) (hv : o_r v) : MS yX8_loan cX8_loan 4 (some FieldType.int) 2 0 0 43 [og xC, oi z, oi v] T σ (oP1 (oi (fLoan A z v)) T σ) := by
  have hXc := hX
  obtain ⟨hX0, hXr0, hXr1, hXr2, hXr3, hXr4, hXr5, hXr6, hXn, hXs, hXy, hXq, hXk, hXb, hXbs, hXi, hXT⟩ := hXc
  have hHc := hXn
  obtain ⟨hH0, hH1, hH2, hH3, hH4, hH6, hG1, hG80, hG81, hG82, hG83, hEs, hLs, hHT⟩ := hHc
  have hRc := hR
  obtain ⟨hR0, hR5, hR7, hRw8, hRp, hRl, hRe⟩ := hRc
  have hIn := oI_n hI
  have hIc := hI
  obtain ⟨hI1, hI2, hI3, hI4, hI5, hI6, hI7, hI8, -⟩ := hIc
  refine o_met (by decide +kernel) (Nat.le_of_ble_eq_true rfl) (fun p l ee s m args below meth c G b C hr hn => ?_)
  have C : oCx p s m args meth c G b RX8 cX8_loan 4 := C
  show oW p l ee ({ frames := 2, cells := 0, slots := 0, locals := 43 } : Room) s m args below meth c G b 4 0 0 (MQ below (o_Qc G b (oP1 (oi (fLoan A z v)) T σ)) args s 0 0 (fun q => b ≤ q)) T σ 0 [some (og xC), some (oi z), some (oi v), none] []
  refine r_al0 (q := 1) C dX8_loan_0 rfl ?_
  refine r_il1 (q := 2) C dX8_loan_1 rfl ?_
  refine r_callVb (q := 5) C (c_X8_isLoan hX hR hI (by omega)) m_X8_311 (by assumption) (by omega) dX8_loan_2 rfl rfl (by decide) (by decide) (Nat.le_of_ble_eq_true rfl) (fun br2 => ?_) (fun br2 => ?_)
  · refine r_ifne_t (q := 10) C (by decide) (by omega) dX8_loan_5 (by decide) ?_
    have hs := fLoan.eq_1 A z v
    rw [if_pos br2] at hs
    obtain ⟨lN, rfl, hlN⟩ : ∃ lN : Nat, z = (lN : Int) ∧ lN < nLn A := ⟨z.toNat, by omega, by omega⟩
    rw [Int.toNat_natCast] at hs
    obtain ⟨g0, g1, g2, g3, g4, g5, g6, g7⟩ := hRl lN hlN
    have hIl := hI7 lN hlN
    have hLj0 := (hLs lN (by omega)).1
    have hLj1 := (hLs lN (by omega)).2
    refine r_al0 (q := 11) C dX8_loan_10 rfl ?_
    refine r_getR (q := 14) C f_X8_10 dX8_loan_11 rfl rfl (by assumption) (by assumption) (by omega) ?_
    refine r_getR (q := 17) C f_X8_314 dX8_loan_14 rfl rfl (by assumption) (by assumption) (by omega) ?_
    refine r_il1 (q := 18) C dX8_loan_17 rfl ?_
    refine r_aald (q := 19) C (lN) dX8_loan_18 rfl (by assumption) (by omega) (by omega) (by omega) (by decide) hLj0 rfl rfl (by decide) (by decide) ?_
    refine r_as3 (q := 20) C dX8_loan_19 rfl (by decide) ?_
    refine r_il2 (q := 21) C dX8_loan_20 rfl ?_
    rcases (show v = 0 ∨ v = 1 ∨ v = 2 ∨ v = 3 ∨ v = 4 ∨ v = 5 ∨ v = 6 ∨ v = 7 ∨ (v < 0 ∨ 7 < v) by omega) with hw1 | hw1 | hw1 | hw1 | hw1 | hw1 | hw1 | hw1 | hw1
    ·
      refine r_tsin (q := 68) (j := 0) C dX8_loan_21 (by omega) (by omega) (by decide) rfl (by decide) ?_
      refine r_al3 (q := 69) C dX8_loan_68 rfl ?_
      refine r_getI (q := 72) C f_X8_326 dX8_loan_69 rfl rfl (by assumption) (by omega) ?_
      exact r_iret C hr dX8_loan_72 (by decide) (by decide) ⟨by rw [hs, if_pos hw1, g0], rfl, rfl⟩
    ·
      refine r_tsin (q := 73) (j := 1) C dX8_loan_21 (by omega) (by omega) (by decide) rfl (by decide) ?_
      refine r_al3 (q := 74) C dX8_loan_73 rfl ?_
      refine r_getI (q := 77) C f_X8_329 dX8_loan_74 rfl rfl (by assumption) (by omega) ?_
      exact r_iret C hr dX8_loan_77 (by decide) (by decide) ⟨by rw [hs, if_neg (by omega), if_pos hw1, g1], rfl, rfl⟩
    ·
      refine r_tsin (q := 78) (j := 2) C dX8_loan_21 (by omega) (by omega) (by decide) rfl (by decide) ?_
      refine r_al3 (q := 79) C dX8_loan_78 rfl ?_
      refine r_getI (q := 82) C f_X8_332 dX8_loan_79 rfl rfl (by assumption) (by omega) ?_
      exact r_iret C hr dX8_loan_82 (by decide) (by decide) ⟨by rw [hs, if_neg (by omega), if_neg (by omega), if_pos hw1, g2], rfl, rfl⟩
    ·
      refine r_tsin (q := 83) (j := 3) C dX8_loan_21 (by omega) (by omega) (by decide) rfl (by decide) ?_
      refine r_al3 (q := 84) C dX8_loan_83 rfl ?_
      refine r_getI (q := 87) C f_X8_335 dX8_loan_84 rfl rfl (by assumption) (by omega) ?_
      exact r_iret C hr dX8_loan_87 (by decide) (by decide) ⟨by rw [hs, if_neg (by omega), if_neg (by omega), if_neg (by omega), if_pos hw1, g3], rfl, rfl⟩
    ·
      refine r_tsin (q := 88) (j := 4) C dX8_loan_21 (by omega) (by omega) (by decide) rfl (by decide) ?_
      refine r_al3 (q := 89) C dX8_loan_88 rfl ?_
      refine r_getI (q := 92) C f_X8_318 dX8_loan_89 rfl rfl (by assumption) (by omega) ?_
      exact r_iret C hr dX8_loan_92 (by decide) (by decide) ⟨by rw [hs, if_neg (by omega), if_neg (by omega), if_neg (by omega), if_neg (by omega), if_pos hw1, g4], rfl, rfl⟩
    ·
      refine r_tsin (q := 93) (j := 5) C dX8_loan_21 (by omega) (by omega) (by decide) rfl (by decide) ?_
      refine r_al3 (q := 94) C dX8_loan_93 rfl ?_
      refine r_getI (q := 97) C f_X8_338 dX8_loan_94 rfl rfl (by assumption) (by omega) ?_
      exact r_iret C hr dX8_loan_97 (by decide) (by decide) ⟨by rw [hs, if_neg (by omega), if_neg (by omega), if_neg (by omega), if_neg (by omega), if_neg (by omega), if_pos hw1, g6], rfl, rfl⟩
    ·
      refine r_tsin (q := 98) (j := 6) C dX8_loan_21 (by omega) (by omega) (by decide) rfl (by decide) ?_
      refine r_al3 (q := 99) C dX8_loan_98 rfl ?_
      refine r_getI (q := 102) C f_X8_341 dX8_loan_99 rfl rfl (by assumption) (by omega) ?_
      exact r_iret C hr dX8_loan_102 (by decide) (by decide) ⟨by rw [hs, if_neg (by omega), if_neg (by omega), if_neg (by omega), if_neg (by omega), if_neg (by omega), if_neg (by omega), if_pos hw1, g7], rfl, rfl⟩
    ·
      refine r_tsin (q := 103) (j := 7) C dX8_loan_21 (by omega) (by omega) (by decide) rfl (by decide) ?_
      refine r_al3 (q := 104) C dX8_loan_103 rfl ?_
      refine r_al0 (q := 105) C dX8_loan_104 rfl ?_
      refine r_getR (q := 108) C f_X8_10 dX8_loan_105 rfl rfl (by assumption) (by assumption) (by omega) ?_
      refine r_getI (q := 111) C f_X8_344 dX8_loan_108 rfl rfl (by assumption) (by omega) ?_
      rw [hR7]
      refine r_callVb (q := 114) C (c_X7_isOverdue hLj1 (by omega) (by omega) (by rw [g4]; omega) (by rw [g6]; omega)) m_X8_347 (by assumption) (by omega) dX8_loan_111 rfl rfl (by decide) (by decide) (Nat.le_of_ble_eq_true rfl) (fun br111 => ?_) (fun br111 => ?_)
      · refine r_ifeq_f (q := 121) (q2 := 117) C (by decide) (by omega) dX8_loan_114 (by decide) rfl ?_
        refine r_iconst (q := 118) C dX8_loan_117 rfl ?_
        refine r_goto (q := 122) C dX8_loan_118 (by decide) ?_
        exact r_iret C hr dX8_loan_122 (by decide) (by decide) ⟨by rw [hs, if_neg (by omega), if_neg (by omega), if_neg (by omega), if_neg (by omega), if_neg (by omega), if_neg (by omega), if_neg (by omega), if_pos hw1, if_pos (by rw [← g4, ← g6]; exact br111)], rfl, rfl⟩
      · refine r_ifeq_t (q := 121) C (by decide) (by omega) dX8_loan_114 (by decide) ?_
        refine r_iconst (q := 122) C dX8_loan_121 rfl ?_
        exact r_iret C hr dX8_loan_122 (by decide) (by decide) ⟨by rw [hs, if_neg (by omega), if_neg (by omega), if_neg (by omega), if_neg (by omega), if_neg (by omega), if_neg (by omega), if_neg (by omega), if_pos hw1, if_neg (by rw [← g4, ← g6]; exact br111)], rfl, rfl⟩
    ·
      refine r_tsout (q := 123) C dX8_loan_21 (by omega) (by omega) (by decide) ?_
      refine r_iconst (q := 124) C dX8_loan_123 rfl ?_
      exact r_iret C hr dX8_loan_124 (by decide) (by decide) ⟨by rw [hs, if_neg (by omega), if_neg (by omega), if_neg (by omega), if_neg (by omega), if_neg (by omega), if_neg (by omega), if_neg (by omega), if_neg (by omega)], rfl, rfl⟩
  · refine r_ifne_f (q := 10) (q2 := 8) C (by decide) (by omega) dX8_loan_5 (by decide) rfl ?_
    refine r_iconst (q := 9) C dX8_loan_8 rfl ?_
    exact r_iret C hr dX8_loan_9 (by decide) (by decide) ⟨by rw [fLoan, if_neg br2], rfl, rfl⟩
set_option maxRecDepth 20000 in
set_option maxHeartbeats 8000000 in
theorem c_X8_ofEdition {T : oT} {σ : oM} {xC : Nat} {A : Nat → Int} {Bd : Int} (hX : oX T xC) (hR : oHR σ (xC + 1) A) (hI : oI Bd A) {z v : Int} (hz : o_r z) (hv : o_r v) : MS yX8_ofEdition cX8_ofEdition 4 (some FieldType.int) 2 0 0 45 [og xC, oi z, oi v] T σ (oP1 (oi (fOfEd A z v)) T σ) := by
  have hXc := hX
  obtain ⟨hX0, hXr0, hXr1, hXr2, hXr3, hXr4, hXr5, hXr6, hXn, hXs, hXy, hXq, hXk, hXb, hXbs, hXi, hXT⟩ := hXc
  have hHc := hXn
  obtain ⟨hH0, hH1, hH2, hH3, hH4, hH6, hG1, hG80, hG81, hG82, hG83, hEs, hLs, hHT⟩ := hHc
  have hRc := hR
  obtain ⟨hR0, hR5, hR7, hRw8, hRp, hRl, hRe⟩ := hRc
  have hIn := oI_n hI
  have hIc := hI
  obtain ⟨hI1, hI2, hI3, hI4, hI5, hI6, hI7, hI8, -⟩ := hIc
  refine o_met (by decide +kernel) (Nat.le_of_ble_eq_true rfl) (fun p l ee s m args below meth c G b C hr hn => ?_)
  have C : oCx p s m args meth c G b RX8 cX8_ofEdition 4 := C
  show oW p l ee ({ frames := 2, cells := 0, slots := 0, locals := 45 } : Room) s m args below meth c G b 4 0 0 (MQ below (o_Qc G b (oP1 (oi (fOfEd A z v)) T σ)) args s 0 0 (fun q => b ≤ q)) T σ 0 [some (og xC), some (oi z), some (oi v), none] []
  refine r_al0 (q := 1) C dX8_ofEdition_0 rfl ?_
  refine r_il1 (q := 2) C dX8_ofEdition_1 rfl ?_
  refine r_callVb (q := 5) C (c_X8_isEdition hX hR hI (by omega)) m_X8_87 (by assumption) (by omega) dX8_ofEdition_2 rfl rfl (by decide) (by decide) (Nat.le_of_ble_eq_true rfl) (fun br2 => ?_) (fun br2 => ?_)
  · refine r_ifne_t (q := 10) C (by decide) (by omega) dX8_ofEdition_5 (by decide) ?_
    have hs := fOfEd.eq_1 A z v
    rw [if_pos br2] at hs
    obtain ⟨eN, rfl, heN, heN6⟩ := isEd_n hI br2
    have hEj0 := (hEs eN (by omega)).1
    have hEd := (hEs eN (by omega)).2
    have hEj1 := hEd.1
    have hRE := oHR_e hR (ex := eN) (by omega)
    have hIE := oI_b hI (ex := eN) (by omega)
    obtain ⟨hRE0, hRE1, hRE2⟩ := hRE
    have hREc : ∀ ix, ix < 6 → _ := fun ix hi => oHR_c hR (ex := eN) (ix := ix) (by omega) hi
    have hREb : ∀ jx, 1 ≤ jx → jx ≤ nBr A eN → _ := fun jx j1 j2 => oHR_b hR (ex := eN) (jx := jx) (by omega) j1 j2
    rw [Int.toNat_natCast] at hs
    refine r_al0 (q := 11) C dX8_ofEdition_10 rfl ?_
    refine r_getR (q := 14) C f_X8_10 dX8_ofEdition_11 rfl rfl (by assumption) (by assumption) (by omega) ?_
    refine r_getR (q := 17) C f_X8_107 dX8_ofEdition_14 rfl rfl (by assumption) (by assumption) (by omega) ?_
    refine r_il1 (q := 18) C dX8_ofEdition_17 rfl ?_
    refine r_aald (q := 19) C (eN) dX8_ofEdition_18 rfl (by assumption) (by omega) (by omega) (by omega) (by decide) hEj0 rfl rfl (by decide) (by decide) ?_
    refine r_as3 (q := 20) C dX8_ofEdition_19 rfl (by decide) ?_
    refine r_il2 (q := 21) C dX8_ofEdition_20 rfl ?_
    rcases (show v = 0 ∨ v = 1 ∨ v = 2 ∨ v = 3 ∨ v = 4 ∨ v = 5 ∨ v = 6 ∨ (v < 0 ∨ 6 < v) by omega) with hw1 | hw1 | hw1 | hw1 | hw1 | hw1 | hw1 | hw1
    ·
      refine r_tsin (q := 64) (j := 0) C dX8_ofEdition_21 (by omega) (by omega) (by decide) rfl (by decide) ?_
      refine r_al3 (q := 65) C dX8_ofEdition_64 rfl ?_
      refine r_getI (q := 68) C f_X8_135 dX8_ofEdition_65 rfl rfl (by assumption) (by omega) ?_
      exact r_iret C hr dX8_ofEdition_68 (by decide) (by decide) ⟨by rw [hs, if_pos hw1, hRE0], rfl, rfl⟩
    ·
      refine r_tsin (q := 69) (j := 1) C dX8_ofEdition_21 (by omega) (by omega) (by decide) rfl (by decide) ?_
      refine r_al3 (q := 70) C dX8_ofEdition_69 rfl ?_
      refine r_getI (q := 73) C f_X8_111 dX8_ofEdition_70 rfl rfl (by assumption) (by omega) ?_
      exact r_iret C hr dX8_ofEdition_73 (by decide) (by decide) ⟨by rw [hs, if_neg (by omega), if_pos hw1, hRE2, hIE.2.1], rfl, rfl⟩
    ·
      refine r_tsin (q := 74) (j := 2) C dX8_ofEdition_21 (by omega) (by omega) (by decide) rfl (by decide) ?_
      refine r_al3 (q := 75) C dX8_ofEdition_74 rfl ?_
      refine r_getI (q := 78) C f_X8_154 dX8_ofEdition_75 rfl rfl (by assumption) (by omega) ?_
      exact r_iret C hr dX8_ofEdition_78 (by decide) (by decide) ⟨by rw [hs, if_neg (by omega), if_neg (by omega), if_pos hw1, hRE1], rfl, rfl⟩
    ·
      refine r_tsin (q := 79) (j := 3) C dX8_ofEdition_21 (by omega) (by omega) (by decide) rfl (by decide) ?_
      refine r_al0 (q := 80) C dX8_ofEdition_79 rfl ?_
      refine r_getR (q := 83) C f_X8_10 dX8_ofEdition_80 rfl rfl (by assumption) (by assumption) (by omega) ?_
      refine r_il1 (q := 84) C dX8_ofEdition_83 rfl ?_
      refine r_callV1 (q := 87) C (c_X6_copiesOfModel (wx := (eN : Int)) hXn hR0 hIn.2.2.1 (by omega) (fun j hj => by have h1 := (oHR_e hR hj).2.1; have h2 := (oI_b hI hj).1.2.2.1; rw [h1]; omega)) m_X8_157 (by assumption) (by omega) dX8_ofEdition_84 rfl rfl (by decide) (by decide) (Nat.le_of_ble_eq_true rfl) ?_
      rw [show sumF (fun jx => if σ (xC + 1 + 2 + 13 * jx) 1 = (eN : Int) then 1 else 0) (nEd A) = sumF (fun jx => if A (179 + 813 * jx) = (eN : Int) then 1 else 0) (nEd A) from sumF_congr (fun j hj => by (try simp only); rw [(oHR_e hR hj).2.1])]
      exact r_iret C hr dX8_ofEdition_87 (by decide) (by decide) ⟨by rw [hs, if_neg (by omega), if_neg (by omega), if_neg (by omega), if_pos hw1], rfl, rfl⟩
    ·
      refine r_tsin (q := 88) (j := 4) C dX8_ofEdition_21 (by omega) (by omega) (by decide) rfl (by decide) ?_
      refine r_al3 (q := 89) C dX8_ofEdition_88 rfl ?_
      refine r_iconst (q := 90) C dX8_ofEdition_89 rfl ?_
      refine r_callV1 (q := 93) C (c_X4_copiesInAll (wx := 0) hEd (by omega)) m_X8_160 (by assumption) (by omega) dX8_ofEdition_90 rfl rfl (by decide) (by decide) (Nat.le_of_ble_eq_true rfl) ?_
      refine r_iret C hr dX8_ofEdition_93 (by decide) (by decide) ?_
      refine ⟨?_, rfl, rfl⟩
      rw [hs, if_neg (by omega), if_neg (by omega), if_neg (by omega), if_neg (by omega), if_pos hw1]
      refine congrArg (fun q => some (oi q)) (sumF_congr (fun i hi => ?_))
      obtain ⟨q1, q2, q3⟩ := hREc i hi
      show σ _ _ + σ _ _ + σ _ _ = _
      rw [q1, q2, q3]
      omega
    ·
      refine r_tsin (q := 94) (j := 5) C dX8_ofEdition_21 (by omega) (by omega) (by decide) rfl (by decide) ?_
      refine r_al3 (q := 95) C dX8_ofEdition_94 rfl ?_
      refine r_callV1 (q := 98) C (c_X4_bowingsInAll hEd hRE2 (by omega) (fun i hi j j1 j2 => by have h1 := (hREb j j1 j2).2.2.2.2 i hi; have h2 := (hIE.1.2.2.2.2 j j1 j2).2.2.2.2 i hi; rw [h1]; omega)) m_X8_163 (by assumption) (by omega) dX8_ofEdition_95 rfl rfl (by decide) (by decide) (Nat.le_of_ble_eq_true rfl) ?_
      refine r_iret C hr dX8_ofEdition_98 (by decide) (by decide) ?_
      refine ⟨?_, rfl, rfl⟩
      rw [hs, if_neg (by omega), if_neg (by omega), if_neg (by omega), if_neg (by omega), if_neg (by omega), if_pos hw1]
      refine congrArg (fun q => some (oi q)) (sumF_congr (fun i hi => sumF_congr (fun j hj => ?_)))
      rw [(hREb (j + 1) (by omega) (by omega)).2.2.2.2 i hi]
    ·
      refine r_tsin (q := 99) (j := 6) C dX8_ofEdition_21 (by omega) (by omega) (by decide) rfl (by decide) ?_
      refine r_al3 (q := 100) C dX8_ofEdition_99 rfl ?_
      refine r_callV1 (q := 103) C (c_X4_ownTempos hEd hRE2 (by omega) (fun j j1 j2 => by have h1 := (hREb j j1 j2).2.2.2.1; have h2 := (hIE.1.2.2.2.2 j j1 j2).2.2.2.1; rw [h1]; omega)) m_X8_167 (by assumption) (by omega) dX8_ofEdition_100 rfl rfl (by decide) (by decide) (Nat.le_of_ble_eq_true rfl) ?_
      refine r_iret C hr dX8_ofEdition_103 (by decide) (by decide) ?_
      refine ⟨?_, rfl, rfl⟩
      rw [hs, if_neg (by omega), if_neg (by omega), if_neg (by omega), if_neg (by omega), if_neg (by omega), if_neg (by omega), if_pos hw1]
      refine congrArg (fun q => some (oi q)) (sumF_congr (fun j hj => ?_))
      rw [(hREb (j + 1) (by omega) (by omega)).2.2.2.1]
    ·
      refine r_tsout (q := 104) C dX8_ofEdition_21 (by omega) (by omega) (by decide) ?_
      refine r_iconst (q := 105) C dX8_ofEdition_104 rfl ?_
      exact r_iret C hr dX8_ofEdition_105 (by decide) (by decide) ⟨by rw [hs, if_neg (by omega), if_neg (by omega), if_neg (by omega), if_neg (by omega), if_neg (by omega), if_neg (by omega), if_neg (by omega)], rfl, rfl⟩
  · refine r_ifne_f (q := 10) (q2 := 8) C (by decide) (by omega) dX8_ofEdition_5 (by decide) rfl ?_
    refine r_iconst (q := 9) C dX8_ofEdition_8 rfl ?_
    exact r_iret C hr dX8_ofEdition_9 (by decide) (by decide) ⟨by rw [fOfEd, if_neg br2], rfl, rfl⟩
set_option maxRecDepth 20000 in
set_option maxHeartbeats 8000000 in
theorem c_X8_count {T : oT} {σ : oM} {xC : Nat} {A : Nat → Int} {Bd : Int} (hX : oX T xC) (hR : oHR σ (xC + 1) A) (hI : oI Bd A) {z : Int} (hz : o_r z) {hnx il : Int} (hhn : σ (xC + 209) 2 = hnx) (hil : σ (xC + 1163) 1 = il) : MS yX8_count cX8_count 2 (some FieldType.int) 3 0 0 68 [og xC, oi z] T σ (oP1 (oi (fCount A hnx il z)) T σ) := by
  have hXc := hX
  obtain ⟨hX0, hXr0, hXr1, hXr2, hXr3, hXr4, hXr5, hXr6, hXn, hXs, hXy, hXq, hXk, hXb, hXbs, hXi, hXT⟩ := hXc
  have hHc := hXn
  obtain ⟨hH0, hH1, hH2, hH3, hH4, hH6, hG1, hG80, hG81, hG82, hG83, hEs, hLs, hHT⟩ := hHc
  have hRc := hR
  obtain ⟨hR0, hR5, hR7, hRw8, hRp, hRl, hRe⟩ := hRc
  have hIn := oI_n hI
  have hIc := hI
  obtain ⟨hI1, hI2, hI3, hI4, hI5, hI6, hI7, hI8, -⟩ := hIc
  have hY0 := hXy.1
  refine o_met (by decide +kernel) (Nat.le_of_ble_eq_true rfl) (fun p l ee s m args below meth c G b C hr hn => ?_)
  have C : oCx p s m args meth c G b RX8 cX8_count 2 := C
  show oW p l ee ({ frames := 3, cells := 0, slots := 0, locals := 68 } : Room) s m args below meth c G b 2 0 0 (MQ below (o_Qc G b (oP1 (oi (fCount A hnx il z)) T σ)) args s 0 0 (fun q => b ≤ q)) T σ 0 [some (og xC), some (oi z)] []
  refine r_il1 (q := 1) C dX8_count_0 rfl ?_
  rcases (show z = 0 ∨ z = 1 ∨ z = 2 ∨ z = 3 ∨ z = 4 ∨ z = 5 ∨ z = 6 ∨ z = 7 ∨ z = 8 ∨ z = 9 ∨ z = 10 ∨ (z < 0 ∨ 10 < z) by omega) with hw1 | hw1 | hw1 | hw1 | hw1 | hw1 | hw1 | hw1 | hw1 | hw1 | hw1 | hw1
  ·
    refine r_tsin (q := 60) (j := 0) C dX8_count_1 (by omega) (by omega) (by decide) rfl (by decide) ?_
    refine r_al0 (q := 61) C dX8_count_60 rfl ?_
    refine r_getR (q := 64) C f_X8_10 dX8_count_61 rfl rfl (by assumption) (by assumption) (by omega) ?_
    refine r_getI (q := 67) C f_X8_76 dX8_count_64 rfl rfl (by assumption) (by omega) ?_
    exact r_iret C hr dX8_count_67 (by decide) (by decide) ⟨by rw [fCount, if_pos hw1, hR0, hIn.1], rfl, rfl⟩
  ·
    refine r_tsin (q := 68) (j := 1) C dX8_count_1 (by omega) (by omega) (by decide) rfl (by decide) ?_
    refine r_al0 (q := 69) C dX8_count_68 rfl ?_
    refine r_getR (q := 72) C f_X8_10 dX8_count_69 rfl rfl (by assumption) (by assumption) (by omega) ?_
    refine r_getI (q := 75) C f_X8_292 dX8_count_72 rfl rfl (by assumption) (by omega) ?_
    exact r_iret C hr dX8_count_75 (by decide) (by decide) ⟨by rw [fCount, if_neg (by omega), if_pos hw1, hR5, hIn.2.1], rfl, rfl⟩
  ·
    refine r_tsin (q := 76) (j := 2) C dX8_count_1 (by omega) (by omega) (by decide) rfl (by decide) ?_
    refine r_al0 (q := 77) C dX8_count_76 rfl ?_
    refine r_getR (q := 80) C f_X8_10 dX8_count_77 rfl rfl (by assumption) (by assumption) (by omega) ?_
    have hrg : ∀ jx, jx < nLn A → o_r (σ (xC + 1 + 84 + jx) 0) ∧ o_r (σ (xC + 1 + 84 + jx) 4) ∧ o_r (σ (xC + 1 + 84 + jx) 6) := fun jx hj => by
      have h1 := hRl jx hj
      have h2 := hI7 jx hj
      obtain ⟨g0, g1, g2, g3, g4, g5, g6, g7⟩ := h1
      rw [g0, g4, g6]
      omega
    have hdy : o_r (σ (xC + 1) 7) := by omega
    refine r_callV1 (q := 83) C (c_X6_openLoans hXn hR5 hIn.2.2.2 (fun j hj => (hrg j hj).2.1)) m_X8_411 (by assumption) (by omega) dX8_count_80 rfl rfl (by decide) (by decide) (Nat.le_of_ble_eq_true rfl) ?_
    rw [show sumF (fun jx => if 0 < σ (xC + 1 + 84 + jx) 4 then 1 else 0) (nLn A) = sumF (fun jx => if 0 < A (21 + 8 * jx) then 1 else 0) (nLn A) from sumF_congr (fun j hj => by (try simp only); rw [(hRl j hj).2.2.2.2.1])]
    exact r_iret C hr dX8_count_83 (by decide) (by decide) ⟨by rw [fCount, if_neg (by omega), if_neg (by omega), if_pos hw1], rfl, rfl⟩
  ·
    refine r_tsin (q := 84) (j := 3) C dX8_count_1 (by omega) (by omega) (by decide) rfl (by decide) ?_
    refine r_al0 (q := 85) C dX8_count_84 rfl ?_
    refine r_getR (q := 88) C f_X8_10 dX8_count_85 rfl rfl (by assumption) (by assumption) (by omega) ?_
    refine r_iconst (q := 89) C dX8_count_88 rfl ?_
    refine r_callV1 (q := 92) C (c_X6_copiesInAll (wx := 0) hXn hR0 hIn.2.2.1 (by omega)) m_X8_414 (by assumption) (by omega) dX8_count_89 rfl rfl (by decide) (by decide) (Nat.le_of_ble_eq_true rfl) ?_
    refine r_iret C hr dX8_count_92 (by decide) (by decide) ?_
    refine ⟨?_, rfl, rfl⟩
    rw [fCount, if_neg (by omega), if_neg (by omega), if_neg (by omega), if_pos hw1]
    refine congrArg (fun q => some (oi q)) (sumF_congr (fun j hj => sumF_congr (fun i hi => ?_)))
    obtain ⟨q1, q2, q3⟩ := oHR_c hR hj hi
    try simp only
    rw [q1, q2, q3]
    show _ + _ + _ = _
    omega
  ·
    refine r_tsin (q := 93) (j := 4) C dX8_count_1 (by omega) (by omega) (by decide) rfl (by decide) ?_
    refine r_al0 (q := 94) C dX8_count_93 rfl ?_
    refine r_getR (q := 97) C f_X8_10 dX8_count_94 rfl rfl (by assumption) (by assumption) (by omega) ?_
    refine r_iconst (q := 98) C dX8_count_97 rfl ?_
    refine r_callV1 (q := 101) C (c_X6_copiesInAll (wx := 1) hXn hR0 hIn.2.2.1 (by omega)) m_X8_414 (by assumption) (by omega) dX8_count_98 rfl rfl (by decide) (by decide) (Nat.le_of_ble_eq_true rfl) ?_
    refine r_iret C hr dX8_count_101 (by decide) (by decide) ?_
    refine ⟨?_, rfl, rfl⟩
    rw [fCount, if_neg (by omega), if_neg (by omega), if_neg (by omega), if_neg (by omega), if_pos hw1]
    refine congrArg (fun q => some (oi q)) (sumF_congr (fun j hj => sumF_congr (fun i hi => ?_)))
    obtain ⟨q1, q2, q3⟩ := oHR_c hR hj hi
    try simp only
    rw [q1, q2, q3]
    rfl
  ·
    refine r_tsin (q := 102) (j := 5) C dX8_count_1 (by omega) (by omega) (by decide) rfl (by decide) ?_
    refine r_al0 (q := 103) C dX8_count_102 rfl ?_
    refine r_getR (q := 106) C f_X8_10 dX8_count_103 rfl rfl (by assumption) (by assumption) (by omega) ?_
    refine r_iconst (q := 107) C dX8_count_106 rfl ?_
    refine r_callV1 (q := 110) C (c_X6_copiesInAll (wx := 2) hXn hR0 hIn.2.2.1 (by omega)) m_X8_414 (by assumption) (by omega) dX8_count_107 rfl rfl (by decide) (by decide) (Nat.le_of_ble_eq_true rfl) ?_
    refine r_iret C hr dX8_count_110 (by decide) (by decide) ?_
    refine ⟨?_, rfl, rfl⟩
    rw [fCount, if_neg (by omega), if_neg (by omega), if_neg (by omega), if_neg (by omega), if_neg (by omega), if_pos hw1]
    refine congrArg (fun q => some (oi q)) (sumF_congr (fun j hj => sumF_congr (fun i hi => ?_)))
    obtain ⟨q1, q2, q3⟩ := oHR_c hR hj hi
    try simp only
    rw [q1, q2, q3]
    rfl
  ·
    refine r_tsin (q := 111) (j := 6) C dX8_count_1 (by omega) (by omega) (by decide) rfl (by decide) ?_
    refine r_al0 (q := 112) C dX8_count_111 rfl ?_
    refine r_getR (q := 115) C f_X8_10 dX8_count_112 rfl rfl (by assumption) (by assumption) (by omega) ?_
    refine r_iconst (q := 116) C dX8_count_115 rfl ?_
    refine r_callV1 (q := 119) C (c_X6_copiesInAll (wx := 3) hXn hR0 hIn.2.2.1 (by omega)) m_X8_414 (by assumption) (by omega) dX8_count_116 rfl rfl (by decide) (by decide) (Nat.le_of_ble_eq_true rfl) ?_
    refine r_iret C hr dX8_count_119 (by decide) (by decide) ?_
    refine ⟨?_, rfl, rfl⟩
    rw [fCount, if_neg (by omega), if_neg (by omega), if_neg (by omega), if_neg (by omega), if_neg (by omega), if_neg (by omega), if_pos hw1]
    refine congrArg (fun q => some (oi q)) (sumF_congr (fun j hj => sumF_congr (fun i hi => ?_)))
    obtain ⟨q1, q2, q3⟩ := oHR_c hR hj hi
    try simp only
    rw [q1, q2, q3]
    rfl
  ·
    refine r_tsin (q := 120) (j := 7) C dX8_count_1 (by omega) (by omega) (by decide) rfl (by decide) ?_
    refine r_al0 (q := 121) C dX8_count_120 rfl ?_
    refine r_getR (q := 124) C f_X8_10 dX8_count_121 rfl rfl (by assumption) (by assumption) (by omega) ?_
    refine r_callV1 (q := 127) C (c_X6_feesInAll hXn hR5 hIn.2.2.2) m_X8_415 (by assumption) (by omega) dX8_count_124 rfl rfl (by decide) (by decide) (Nat.le_of_ble_eq_true rfl) ?_
    rw [show sumF (fun jx => σ (xC + 1 + 84 + jx) 7) (nLn A) = sumF (fun jx => A (23 + 8 * jx)) (nLn A) from sumF_congr (fun j hj => (hRl j hj).2.2.2.2.2.2.2)]
    exact r_iret C hr dX8_count_127 (by decide) (by decide) ⟨by rw [fCount, if_neg (by omega), if_neg (by omega), if_neg (by omega), if_neg (by omega), if_neg (by omega), if_neg (by omega), if_neg (by omega), if_pos hw1], rfl, rfl⟩
  ·
    refine r_tsin (q := 128) (j := 8) C dX8_count_1 (by omega) (by omega) (by decide) rfl (by decide) ?_
    refine r_al0 (q := 129) C dX8_count_128 rfl ?_
    refine r_getR (q := 132) C f_X8_10 dX8_count_129 rfl rfl (by assumption) (by assumption) (by omega) ?_
    refine r_getI (q := 135) C f_X8_344 dX8_count_132 rfl rfl (by assumption) (by omega) ?_
    exact r_iret C hr dX8_count_135 (by decide) (by decide) ⟨by rw [fCount, if_neg (by omega), if_neg (by omega), if_neg (by omega), if_neg (by omega), if_neg (by omega), if_neg (by omega), if_neg (by omega), if_neg (by omega), if_pos hw1, hR7], rfl, rfl⟩
  ·
    refine r_tsin (q := 136) (j := 9) C dX8_count_1 (by omega) (by omega) (by decide) rfl (by decide) ?_
    refine r_al0 (q := 137) C dX8_count_136 rfl ?_
    refine r_getR (q := 140) C f_X8_22 dX8_count_137 rfl rfl (by assumption) (by assumption) (by omega) ?_
    refine r_getI (q := 143) C f_X8_418 dX8_count_140 rfl rfl (by assumption) (by omega) ?_
    exact r_iret C hr dX8_count_143 (by decide) (by decide) ⟨by rw [fCount, if_neg (by omega), if_neg (by omega), if_neg (by omega), if_neg (by omega), if_neg (by omega), if_neg (by omega), if_neg (by omega), if_neg (by omega), if_neg (by omega), if_pos hw1, hhn], rfl, rfl⟩
  ·
    refine r_tsin (q := 144) (j := 10) C dX8_count_1 (by omega) (by omega) (by decide) rfl (by decide) ?_
    refine r_al0 (q := 145) C dX8_count_144 rfl ?_
    refine r_getR (q := 148) C f_X8_50 dX8_count_145 rfl rfl (by assumption) (by assumption) (by omega) ?_
    refine r_getI (q := 151) C f_X8_380 dX8_count_148 rfl rfl (by assumption) (by omega) ?_
    exact r_iret C hr dX8_count_151 (by decide) (by decide) ⟨by rw [fCount, if_neg (by omega), if_neg (by omega), if_neg (by omega), if_neg (by omega), if_neg (by omega), if_neg (by omega), if_neg (by omega), if_neg (by omega), if_neg (by omega), if_neg (by omega), if_pos hw1, hil], rfl, rfl⟩
  ·
    refine r_tsout (q := 152) C dX8_count_1 (by omega) (by omega) (by decide) ?_
    refine r_iconst (q := 153) C dX8_count_152 rfl ?_
    exact r_iret C hr dX8_count_153 (by decide) (by decide) ⟨by rw [fCount, if_neg (by omega), if_neg (by omega), if_neg (by omega), if_neg (by omega), if_neg (by omega), if_neg (by omega), if_neg (by omega), if_neg (by omega), if_neg (by omega), if_neg (by omega), if_neg (by omega)], rfl, rfl⟩
set_option maxRecDepth 20000 in
set_option maxHeartbeats 8000000 in
theorem c_X8_compare {T : oT} {σ : oM} {xC : Nat} {A : Nat → Int} {Bd : Int} (hX : oX T xC) (hR : oHR σ (xC + 1) A) (hI : oI Bd A) {z v w : Int} (hz : o_r z) (hv : o_r v) (hw : o_r w) : MS yX8_compare cX8_compare 4 (some FieldType.int) 4 0 0 96 [og xC, oi z, oi v, oi w] T σ (oPs (fun zx σ2 => zx = fCompare A z v w ∧ (∀ x, x < xC + 1147 ∨ xC + 1152 ≤ x → σ2 x = σ x)) T) := by
  have hXc := hX
  obtain ⟨hX0, hXr0, hXr1, hXr2, hXr3, hXr4, hXr5, hXr6, hXn, hXs, hXy, hXq, hXk, hXb, hXbs, hXi, hXT⟩ := hXc
  have hHc := hXn
  obtain ⟨hH0, hH1, hH2, hH3, hH4, hH6, hG1, hG80, hG81, hG82, hG83, hEs, hLs, hHT⟩ := hHc
  have hRc := hR
  obtain ⟨hR0, hR5, hR7, hRw8, hRp, hRl, hRe⟩ := hRc
  have hIn := oI_n hI
  have hIc := hI
  obtain ⟨hI1, hI2, hI3, hI4, hI5, hI6, hI7, hI8, -⟩ := hIc
  refine o_met (by decide +kernel) (Nat.le_of_ble_eq_true rfl) (fun p l ee s m args below meth c G b C hr hn => ?_)
  have C : oCx p s m args meth c G b RX8 cX8_compare 4 := C
  show oW p l ee ({ frames := 4, cells := 0, slots := 0, locals := 96 } : Room) s m args below meth c G b 4 0 0 (MQ below (o_Qc G b (oPs (fun zx σ2 => zx = fCompare A z v w ∧ (∀ x, x < xC + 1147 ∨ xC + 1152 ≤ x → σ2 x = σ x)) T)) args s 0 0 (fun q => b ≤ q)) T σ 0 [some (og xC), some (oi z), some (oi v), some (oi w)] []
  refine r_al0 (q := 1) C dX8_compare_0 rfl ?_
  refine r_il1 (q := 2) C dX8_compare_1 rfl ?_
  refine r_callVb (q := 5) C (c_X8_isEdition hX hR hI (by omega)) m_X8_87 (by assumption) (by omega) dX8_compare_2 rfl rfl (by decide) (by decide) (Nat.le_of_ble_eq_true rfl) (fun br2 => ?_) (fun br2 => ?_)
  · refine r_ifeq_f (q := 25) (q2 := 8) C (by decide) (by omega) dX8_compare_5 (by decide) rfl ?_
    refine r_al0 (q := 9) C dX8_compare_8 rfl ?_
    refine r_il2 (q := 10) C dX8_compare_9 rfl ?_
    refine r_callVb (q := 13) C (c_X8_isEdition hX hR hI (by omega)) m_X8_87 (by assumption) (by omega) dX8_compare_10 rfl rfl (by decide) (by decide) (Nat.le_of_ble_eq_true rfl) (fun br10 => ?_) (fun br10 => ?_)
    · refine r_ifeq_f (q := 25) (q2 := 16) C (by decide) (by omega) dX8_compare_13 (by decide) rfl ?_
      refine r_il3 (q := 17) C dX8_compare_16 rfl ?_
      refine r_iconst (q := 18) C dX8_compare_17 rfl ?_
      refine r_iconst (q := 19) C dX8_compare_18 rfl ?_
      refine r_callSb (q := 22) C (c_X8_within hw (by omega) (by omega)) m_X8_68 dX8_compare_19 rfl rfl (by decide) (by decide) (Nat.le_of_ble_eq_true rfl) (fun br19 => ?_) (fun br19 => ?_)
      · refine r_ifne_t (q := 27) C (by decide) (by omega) dX8_compare_22 (by decide) ?_
        have hs := fCompare.eq_1 A z v w
        rw [if_pos ⟨br2, br10, br19⟩] at hs
        obtain ⟨eN, rfl, heN, heN6⟩ := isEd_n hI br2
        obtain ⟨kN, rfl, hkN, hkN6⟩ := isEd_n hI br10
        have hEj0 := (hEs eN (by omega)).1
        have hEd := (hEs eN (by omega)).2
        have hEj1 := hEd.1
        have hRE := oHR_e hR (ex := eN) (by omega)
        have hIE := oI_b hI (ex := eN) (by omega)
        obtain ⟨hRE0, hRE1, hRE2⟩ := hRE
        have hREc : ∀ ix, ix < 6 → _ := fun ix hi => oHR_c hR (ex := eN) (ix := ix) (by omega) hi
        have hREb : ∀ jx, 1 ≤ jx → jx ≤ nBr A eN → _ := fun jx j1 j2 => oHR_b hR (ex := eN) (jx := jx) (by omega) j1 j2
        have hEj0k := (hEs kN (by omega)).1
        have hEdk := (hEs kN (by omega)).2
        have hEj1k := hEdk.1
        have hIEk := oI_b hI (ex := kN) (by omega)
        have hRk2 := (oHR_e hR hkN).2.2
        rw [Int.toNat_natCast, Int.toNat_natCast] at hs
        have hq0 := hXq.1
        refine r_al0 (q := 28) C dX8_compare_27 rfl ?_
        refine r_il1 (q := 29) C dX8_compare_28 rfl ?_
        refine r_il2 (q := 30) C dX8_compare_29 rfl ?_
        refine r_callVb (q := 33) C (c_X8_areOfOneWork hX hR hI heN hkN) m_X8_179 (by assumption) (by omega) dX8_compare_30 rfl rfl (by decide) (by decide) (Nat.le_of_ble_eq_true rfl) (fun br30 => ?_) (fun br30 => ?_)
        · refine r_ifne_t (q := 39) C (by decide) (by omega) dX8_compare_33 (by decide) ?_
          refine r_al0 (q := 40) C dX8_compare_39 rfl ?_
          refine r_getR (q := 43) C f_X8_29 dX8_compare_40 rfl rfl (by assumption) (by assumption) (by omega) ?_
          refine r_al0 (q := 44) C dX8_compare_43 rfl ?_
          refine r_getR (q := 47) C f_X8_10 dX8_compare_44 rfl rfl (by assumption) (by assumption) (by omega) ?_
          refine r_getR (q := 50) C f_X8_107 dX8_compare_47 rfl rfl (by assumption) (by assumption) (by omega) ?_
          refine r_il1 (q := 51) C dX8_compare_50 rfl ?_
          refine r_aald (q := 52) C (eN) dX8_compare_51 rfl (by assumption) (by omega) (by omega) (by omega) (by decide) hEj0 rfl rfl (by decide) (by decide) ?_
          refine r_al0 (q := 53) C dX8_compare_52 rfl ?_
          refine r_getR (q := 56) C f_X8_10 dX8_compare_53 rfl rfl (by assumption) (by assumption) (by omega) ?_
          refine r_getR (q := 59) C f_X8_107 dX8_compare_56 rfl rfl (by assumption) (by assumption) (by omega) ?_
          refine r_il2 (q := 60) C dX8_compare_59 rfl ?_
          refine r_aald (q := 61) C (kN) dX8_compare_60 rfl (by assumption) (by omega) (by omega) (by omega) (by decide) hEj0k rfl rfl (by decide) (by decide) ?_
          refine r_callVv (q := 64) C (c_X3_trace (qC := xC + 1147) (eC := (xC + 1 + 2 + 13 * eN)) (aC := (xC + 1 + 2 + 13 * kN)) hXq hEd hEdk (by omega) (by omega) hRE2 (by omega) hRk2 (by omega) (fun j j1 j2 => by have h1 := (hREb j j1 j2).1; have h2 := (hIE.1.2.2.2.2 j j1 j2).1; rw [h1]; omega) (fun j j1 j2 => by have h1 := (oHR_b hR hkN j1 j2).1; have h2 := (hIEk.1.2.2.2.2 j j1 j2).1; rw [h1]; omega) (fun j j1 j2 => by have h1 := (hREb j j1 j2).2.1; have h2 := (hIE.1.2.2.2.2 j j1 j2).2.1; rw [h1]; omega) (fun j j1 j2 => by have h1 := (oHR_b hR hkN j1 j2).2.1; have h2 := (hIEk.1.2.2.2.2 j j1 j2).2.1; rw [h1]; omega)) m_X8_186 (by assumption) (by omega) dX8_compare_61 rfl rfl (by decide) (by decide) (Nat.le_of_ble_eq_true rfl) (fun σ2 hσ2 => ?_)
          rw [runsA_of hR heN hkN, trA_of hR heN hkN (Nat.le_refl _)] at hσ2
          obtain ⟨hrl, hr0, hr1, hrf⟩ := hσ2
          have hrl2 := hrl.1
          have hrn := runsA_len hI heN hkN
          have hre : ∀ x, x < xC + 1147 ∨ xC + 1147 + 5 ≤ x → σ2 x = σ x := hrf
          refine r_il3 (q := 65) C dX8_compare_64 rfl ?_
          rcases (show w = 0 ∨ w = 1 ∨ w = 2 ∨ w = 3 ∨ (w < 0 ∨ 3 < w) by omega) with hw1 | hw1 | hw1 | hw1 | hw1
          ·
            refine r_tsin (q := 96) (j := 0) C dX8_compare_65 (by omega) (by omega) (by decide) rfl (by decide) ?_
            refine r_al0 (q := 97) C dX8_compare_96 rfl ?_
            refine r_getR (q := 100) C f_X8_29 dX8_compare_97 rfl rfl (by assumption) (by assumption) (by omega) ?_
            refine r_getI (q := 103) C f_X8_190 dX8_compare_100 rfl rfl (by assumption) (by omega) ?_
            exact r_iret C hr dX8_compare_103 (by decide) (by decide) ⟨_, rfl, rfl, by rw [hs, if_pos br30, if_pos hw1, hr0], hre⟩
          ·
            refine r_tsin (q := 104) (j := 1) C dX8_compare_65 (by omega) (by omega) (by decide) rfl (by decide) ?_
            refine r_al0 (q := 105) C dX8_compare_104 rfl ?_
            refine r_getR (q := 108) C f_X8_29 dX8_compare_105 rfl rfl (by assumption) (by assumption) (by omega) ?_
            refine r_getI (q := 111) C f_X8_193 dX8_compare_108 rfl rfl (by assumption) (by omega) ?_
            exact r_iret C hr dX8_compare_111 (by decide) (by decide) ⟨_, rfl, rfl, by rw [hs, if_pos br30, if_neg (by omega), if_pos hw1, hr1], hre⟩
          ·
            refine r_tsin (q := 112) (j := 2) C dX8_compare_65 (by omega) (by omega) (by decide) rfl (by decide) ?_
            refine r_al0 (q := 113) C dX8_compare_112 rfl ?_
            refine r_getR (q := 116) C f_X8_10 dX8_compare_113 rfl rfl (by assumption) (by assumption) (by omega) ?_
            refine r_getR (q := 119) C f_X8_107 dX8_compare_116 rfl rfl (by assumption) (by assumption) (by omega) ?_
            refine r_il1 (q := 120) C dX8_compare_119 rfl ?_
            refine r_aald (q := 121) C (eN) dX8_compare_120 rfl (by assumption) (by omega) (by omega) (by omega) (by decide) hEj0 rfl rfl (by decide) (by decide) ?_
            refine r_getI (q := 124) C f_X8_111 dX8_compare_121 rfl rfl (by assumption) (by omega) ?_
            refine r_al0 (q := 125) C dX8_compare_124 rfl ?_
            refine r_getR (q := 128) C f_X8_29 dX8_compare_125 rfl rfl (by assumption) (by assumption) (by omega) ?_
            refine r_getI (q := 131) C f_X8_190 dX8_compare_128 rfl rfl (by assumption) (by omega) ?_
            refine r_isub (q := 132) C dX8_compare_131 rfl ?_
            exact r_iret C hr dX8_compare_132 (by decide) (by decide) ⟨_, rfl, rfl, by rw [hs, if_pos br30, if_neg (by omega), if_neg (by omega), if_pos hw1, hr0, hre (xC + 1 + 2 + 13 * eN) (by omega), hRE2, hIE.2.1], hre⟩
          ·
            refine r_tsin (q := 133) (j := 3) C dX8_compare_65 (by omega) (by omega) (by decide) rfl (by decide) ?_
            refine r_al0 (q := 134) C dX8_compare_133 rfl ?_
            refine r_getR (q := 137) C f_X8_10 dX8_compare_134 rfl rfl (by assumption) (by assumption) (by omega) ?_
            refine r_getR (q := 140) C f_X8_107 dX8_compare_137 rfl rfl (by assumption) (by assumption) (by omega) ?_
            refine r_il2 (q := 141) C dX8_compare_140 rfl ?_
            refine r_aald (q := 142) C (kN) dX8_compare_141 rfl (by assumption) (by omega) (by omega) (by omega) (by decide) hEj0k rfl rfl (by decide) (by decide) ?_
            refine r_getI (q := 145) C f_X8_111 dX8_compare_142 rfl rfl (by assumption) (by omega) ?_
            refine r_al0 (q := 146) C dX8_compare_145 rfl ?_
            refine r_getR (q := 149) C f_X8_29 dX8_compare_146 rfl rfl (by assumption) (by assumption) (by omega) ?_
            refine r_getI (q := 152) C f_X8_190 dX8_compare_149 rfl rfl (by assumption) (by omega) ?_
            refine r_isub (q := 153) C dX8_compare_152 rfl ?_
            exact r_iret C hr dX8_compare_153 (by decide) (by decide) ⟨_, rfl, rfl, by rw [hs, if_pos br30, if_neg (by omega), if_neg (by omega), if_neg (by omega), if_pos hw1, hr0, hre (xC + 1 + 2 + 13 * kN) (by omega), hRk2, hIEk.2.1], hre⟩
          ·
            refine r_tsout (q := 154) C dX8_compare_65 (by omega) (by omega) (by decide) ?_
            refine r_al0 (q := 155) C dX8_compare_154 rfl ?_
            refine r_getR (q := 158) C f_X8_29 dX8_compare_155 rfl rfl (by assumption) (by assumption) (by omega) ?_
            refine r_getI (q := 161) C f_X8_196 dX8_compare_158 rfl rfl (by assumption) (by omega) ?_
            exact r_iret C hr dX8_compare_161 (by decide) (by decide) ⟨_, rfl, rfl, by rw [hs, if_pos br30, if_neg (by omega), if_neg (by omega), if_neg (by omega), if_neg (by omega), hrl2], hre⟩
        · refine r_ifne_f (q := 39) (q2 := 36) C (by decide) (by omega) dX8_compare_33 (by decide) rfl ?_
          refine r_bipush (q := 38) C dX8_compare_36 (by decide) rfl ?_
          exact r_iret C hr dX8_compare_38 (by decide) (by decide) ⟨_, rfl, rfl, by rw [hs, if_neg br30], fun _ _ => rfl⟩
      · refine r_ifne_f (q := 27) (q2 := 25) C (by decide) (by omega) dX8_compare_22 (by decide) rfl ?_
        refine r_iconst (q := 26) C dX8_compare_25 rfl ?_
        exact r_iret C hr dX8_compare_26 (by decide) (by decide) ⟨_, rfl, rfl, by rw [fCompare, if_neg (fun hc => br19 hc.2.2)], fun _ _ => rfl⟩
    · refine r_ifeq_t (q := 25) C (by decide) (by omega) dX8_compare_13 (by decide) ?_
      refine r_iconst (q := 26) C dX8_compare_25 rfl ?_
      exact r_iret C hr dX8_compare_26 (by decide) (by decide) ⟨_, rfl, rfl, by rw [fCompare, if_neg (fun hc => br10 hc.2.1)], fun _ _ => rfl⟩
  · refine r_ifeq_t (q := 25) C (by decide) (by omega) dX8_compare_5 (by decide) ?_
    refine r_iconst (q := 26) C dX8_compare_25 rfl ?_
    exact r_iret C hr dX8_compare_26 (by decide) (by decide) ⟨_, rfl, rfl, by rw [fCompare, if_neg (fun hc => br2 hc.1)], fun _ _ => rfl⟩
set_option maxRecDepth 20000 in
set_option maxHeartbeats 8000000 in
theorem c_X8_difference {T : oT} {σ : oM} {xC : Nat} {A : Nat → Int} {Bd : Int} (hX : oX T xC) (hR : oHR σ (xC + 1) A) (hI : oI Bd A) {z v ix w : Int} (hz : o_r z) (hv : o_r v) (hix : o_r ix) (hw : o_r w) : MS yX8_difference cX8_difference 5 (some FieldType.int) 4 0 0 96 [og xC, oi z, oi v, oi ix, oi w] T σ (oPs (fun zx σ2 => zx = fDiff A z v ix w ∧ (∀ x, x < xC + 1147 ∨ xC + 1152 ≤ x → σ2 x = σ x)) T) := by
  have hXc := hX
  obtain ⟨hX0, hXr0, hXr1, hXr2, hXr3, hXr4, hXr5, hXr6, hXn, hXs, hXy, hXq, hXk, hXb, hXbs, hXi, hXT⟩ := hXc
  have hHc := hXn
  obtain ⟨hH0, hH1, hH2, hH3, hH4, hH6, hG1, hG80, hG81, hG82, hG83, hEs, hLs, hHT⟩ := hHc
  have hRc := hR
  obtain ⟨hR0, hR5, hR7, hRw8, hRp, hRl, hRe⟩ := hRc
  have hIn := oI_n hI
  have hIc := hI
  obtain ⟨hI1, hI2, hI3, hI4, hI5, hI6, hI7, hI8, -⟩ := hIc
  refine o_met (by decide +kernel) (Nat.le_of_ble_eq_true rfl) (fun p l ee s m args below meth c G b C hr hn => ?_)
  have C : oCx p s m args meth c G b RX8 cX8_difference 5 := C
  show oW p l ee ({ frames := 4, cells := 0, slots := 0, locals := 96 } : Room) s m args below meth c G b 5 0 0 (MQ below (o_Qc G b (oPs (fun zx σ2 => zx = fDiff A z v ix w ∧ (∀ x, x < xC + 1147 ∨ xC + 1152 ≤ x → σ2 x = σ x)) T)) args s 0 0 (fun q => b ≤ q)) T σ 0 [some (og xC), some (oi z), some (oi v), some (oi ix), some (oi w)] []
  refine r_al0 (q := 1) C dX8_difference_0 rfl ?_
  refine r_il1 (q := 2) C dX8_difference_1 rfl ?_
  refine r_callVb (q := 5) C (c_X8_isEdition hX hR hI (by omega)) m_X8_87 (by assumption) (by omega) dX8_difference_2 rfl rfl (by decide) (by decide) (Nat.le_of_ble_eq_true rfl) (fun br2 => ?_) (fun br2 => ?_)
  · refine r_ifeq_f (q := 30) (q2 := 8) C (by decide) (by omega) dX8_difference_5 (by decide) rfl ?_
    refine r_al0 (q := 9) C dX8_difference_8 rfl ?_
    refine r_il2 (q := 10) C dX8_difference_9 rfl ?_
    refine r_callVb (q := 13) C (c_X8_isEdition hX hR hI (by omega)) m_X8_87 (by assumption) (by omega) dX8_difference_10 rfl rfl (by decide) (by decide) (Nat.le_of_ble_eq_true rfl) (fun br10 => ?_) (fun br10 => ?_)
    · refine r_ifeq_f (q := 30) (q2 := 16) C (by decide) (by omega) dX8_difference_13 (by decide) rfl ?_
      refine r_il3 (q := 17) C dX8_difference_16 rfl ?_
      refine r_iflt (q := 30) (q2 := 20) C (by omega) dX8_difference_17 (by decide) rfl (fun br17 => ?_) (fun br17 => ?_)
      · refine r_iconst (q := 31) C dX8_difference_30 rfl ?_
        exact r_iret C hr dX8_difference_31 (by decide) (by decide) ⟨_, rfl, rfl, by rw [fDiff, if_neg (fun hc => by have := hc.2.2.1; omega)], fun _ _ => rfl⟩
      · refine r_il4 (q := 22) C dX8_difference_20 rfl ?_
        refine r_iconst (q := 23) C dX8_difference_22 rfl ?_
        refine r_iconst (q := 24) C dX8_difference_23 rfl ?_
        refine r_callSb (q := 27) C (c_X8_within hw (by omega) (by omega)) m_X8_68 dX8_difference_24 rfl rfl (by decide) (by decide) (Nat.le_of_ble_eq_true rfl) (fun br24 => ?_) (fun br24 => ?_)
        · refine r_ifne_t (q := 32) C (by decide) (by omega) dX8_difference_27 (by decide) ?_
          have hs := fDiff.eq_1 A z v ix w
          rw [if_pos ⟨br2, br10, by omega, br24⟩] at hs
          obtain ⟨eN, rfl, heN, heN6⟩ := isEd_n hI br2
          obtain ⟨kN, rfl, hkN, hkN6⟩ := isEd_n hI br10
          have hEj0 := (hEs eN (by omega)).1
          have hEd := (hEs eN (by omega)).2
          have hEj1 := hEd.1
          have hRE := oHR_e hR (ex := eN) (by omega)
          have hIE := oI_b hI (ex := eN) (by omega)
          obtain ⟨hRE0, hRE1, hRE2⟩ := hRE
          have hREc : ∀ ix, ix < 6 → _ := fun ix hi => oHR_c hR (ex := eN) (ix := ix) (by omega) hi
          have hREb : ∀ jx, 1 ≤ jx → jx ≤ nBr A eN → _ := fun jx j1 j2 => oHR_b hR (ex := eN) (jx := jx) (by omega) j1 j2
          have hEj0k := (hEs kN (by omega)).1
          have hEdk := (hEs kN (by omega)).2
          have hEj1k := hEdk.1
          have hIEk := oI_b hI (ex := kN) (by omega)
          have hRk2 := (oHR_e hR hkN).2.2
          rw [Int.toNat_natCast, Int.toNat_natCast] at hs
          have hq0 := hXq.1
          obtain ⟨jN, rfl⟩ : ∃ jN : Nat, ix = (jN : Int) := ⟨ix.toNat, by omega⟩
          rw [Int.toNat_natCast] at hs
          refine r_al0 (q := 33) C dX8_difference_32 rfl ?_
          refine r_il1 (q := 34) C dX8_difference_33 rfl ?_
          refine r_il2 (q := 35) C dX8_difference_34 rfl ?_
          refine r_callVb (q := 38) C (c_X8_areOfOneWork hX hR hI heN hkN) m_X8_179 (by assumption) (by omega) dX8_difference_35 rfl rfl (by decide) (by decide) (Nat.le_of_ble_eq_true rfl) (fun br35 => ?_) (fun br35 => ?_)
          · refine r_ifne_t (q := 44) C (by decide) (by omega) dX8_difference_38 (by decide) ?_
            refine r_al0 (q := 45) C dX8_difference_44 rfl ?_
            refine r_getR (q := 48) C f_X8_29 dX8_difference_45 rfl rfl (by assumption) (by assumption) (by omega) ?_
            refine r_al0 (q := 49) C dX8_difference_48 rfl ?_
            refine r_getR (q := 52) C f_X8_10 dX8_difference_49 rfl rfl (by assumption) (by assumption) (by omega) ?_
            refine r_getR (q := 55) C f_X8_107 dX8_difference_52 rfl rfl (by assumption) (by assumption) (by omega) ?_
            refine r_il1 (q := 56) C dX8_difference_55 rfl ?_
            refine r_aald (q := 57) C (eN) dX8_difference_56 rfl (by assumption) (by omega) (by omega) (by omega) (by decide) hEj0 rfl rfl (by decide) (by decide) ?_
            refine r_al0 (q := 58) C dX8_difference_57 rfl ?_
            refine r_getR (q := 61) C f_X8_10 dX8_difference_58 rfl rfl (by assumption) (by assumption) (by omega) ?_
            refine r_getR (q := 64) C f_X8_107 dX8_difference_61 rfl rfl (by assumption) (by assumption) (by omega) ?_
            refine r_il2 (q := 65) C dX8_difference_64 rfl ?_
            refine r_aald (q := 66) C (kN) dX8_difference_65 rfl (by assumption) (by omega) (by omega) (by omega) (by decide) hEj0k rfl rfl (by decide) (by decide) ?_
            refine r_callVv (q := 69) C (c_X3_trace (qC := xC + 1147) (eC := (xC + 1 + 2 + 13 * eN)) (aC := (xC + 1 + 2 + 13 * kN)) hXq hEd hEdk (by omega) (by omega) hRE2 (by omega) hRk2 (by omega) (fun j j1 j2 => by have h1 := (hREb j j1 j2).1; have h2 := (hIE.1.2.2.2.2 j j1 j2).1; rw [h1]; omega) (fun j j1 j2 => by have h1 := (oHR_b hR hkN j1 j2).1; have h2 := (hIEk.1.2.2.2.2 j j1 j2).1; rw [h1]; omega) (fun j j1 j2 => by have h1 := (hREb j j1 j2).2.1; have h2 := (hIE.1.2.2.2.2 j j1 j2).2.1; rw [h1]; omega) (fun j j1 j2 => by have h1 := (oHR_b hR hkN j1 j2).2.1; have h2 := (hIEk.1.2.2.2.2 j j1 j2).2.1; rw [h1]; omega)) m_X8_186 (by assumption) (by omega) dX8_difference_66 rfl rfl (by decide) (by decide) (Nat.le_of_ble_eq_true rfl) (fun σ2 hσ2 => ?_)
            rw [runsA_of hR heN hkN, trA_of hR heN hkN (Nat.le_refl _)] at hσ2
            obtain ⟨hrl, hr0, hr1, hrf⟩ := hσ2
            have hrl2 := hrl.1
            have hrn := runsA_len hI heN hkN
            have hre : ∀ x, x < xC + 1147 ∨ xC + 1147 + 5 ≤ x → σ2 x = σ x := hrf
            refine r_il3 (q := 70) C dX8_difference_69 rfl ?_
            refine r_al0 (q := 71) C dX8_difference_70 rfl ?_
            refine r_getR (q := 74) C f_X8_29 dX8_difference_71 rfl rfl (by assumption) (by assumption) (by omega) ?_
            refine r_getI (q := 77) C f_X8_196 dX8_difference_74 rfl rfl (by assumption) (by omega) ?_
            refine r_iclt (q := 83) (q2 := 80) C (by omega) (by omega) dX8_difference_77 (by decide) rfl (fun br77 => ?_) (fun br77 => ?_)
            · obtain ⟨rx, hrx⟩ : ∃ rx, (runsA A eN kN)[jN]? = some rx := ⟨_, List.getElem?_eq_getElem (by omega)⟩
              obtain ⟨f1, f2, f3, f4⟩ := hrl.2 jN rx hrx
              obtain ⟨-, hq3, hq4, hq5, hq6, hq7, hq8, hq9, hqA, hqT⟩ := id hXq
              rw [hrx] at hs
              refine r_il4 (q := 85) C dX8_difference_83 rfl ?_
              rcases (show w = 0 ∨ w = 1 ∨ w = 2 ∨ (w < 0 ∨ 2 < w) by omega) with hw1 | hw1 | hw1 | hw1
              ·
                refine r_tsin (q := 112) (j := 0) C dX8_difference_85 (by omega) (by omega) (by decide) rfl (by decide) ?_
                refine r_al0 (q := 113) C dX8_difference_112 rfl ?_
                refine r_getR (q := 116) C f_X8_29 dX8_difference_113 rfl rfl (by assumption) (by assumption) (by omega) ?_
                refine r_getR (q := 119) C f_X8_199 dX8_difference_116 rfl rfl (by assumption) (by assumption) (by omega) ?_
                refine r_il3 (q := 120) C dX8_difference_119 rfl ?_
                refine r_iald (q := 121) C (jN) dX8_difference_120 rfl (by assumption) (by omega) (by omega) (by omega) (by decide) ?_
                exact r_iret C hr dX8_difference_121 (by decide) (by decide) ⟨_, rfl, rfl, by rw [hs, if_pos br35, f1]; simp only [runK]; rw [if_pos hw1], hre⟩
              ·
                refine r_tsin (q := 122) (j := 1) C dX8_difference_85 (by omega) (by omega) (by decide) rfl (by decide) ?_
                refine r_al0 (q := 123) C dX8_difference_122 rfl ?_
                refine r_getR (q := 126) C f_X8_29 dX8_difference_123 rfl rfl (by assumption) (by assumption) (by omega) ?_
                refine r_getR (q := 129) C f_X8_202 dX8_difference_126 rfl rfl (by assumption) (by assumption) (by omega) ?_
                refine r_il3 (q := 130) C dX8_difference_129 rfl ?_
                refine r_iald (q := 131) C (jN) dX8_difference_130 rfl (by assumption) (by omega) (by omega) (by omega) (by decide) ?_
                exact r_iret C hr dX8_difference_131 (by decide) (by decide) ⟨_, rfl, rfl, by rw [hs, if_pos br35, f2]; simp only [runK]; rw [if_neg (by omega), if_pos hw1], hre⟩
              ·
                refine r_tsin (q := 132) (j := 2) C dX8_difference_85 (by omega) (by omega) (by decide) rfl (by decide) ?_
                refine r_al0 (q := 133) C dX8_difference_132 rfl ?_
                refine r_getR (q := 136) C f_X8_29 dX8_difference_133 rfl rfl (by assumption) (by assumption) (by omega) ?_
                refine r_getR (q := 139) C f_X8_205 dX8_difference_136 rfl rfl (by assumption) (by assumption) (by omega) ?_
                refine r_il3 (q := 140) C dX8_difference_139 rfl ?_
                refine r_iald (q := 141) C (jN) dX8_difference_140 rfl (by assumption) (by omega) (by omega) (by omega) (by decide) ?_
                exact r_iret C hr dX8_difference_141 (by decide) (by decide) ⟨_, rfl, rfl, by rw [hs, if_pos br35, f3]; simp only [runK]; rw [if_neg (by omega), if_neg (by omega), if_pos hw1], hre⟩
              ·
                refine r_tsout (q := 142) C dX8_difference_85 (by omega) (by omega) (by decide) ?_
                refine r_al0 (q := 143) C dX8_difference_142 rfl ?_
                refine r_getR (q := 146) C f_X8_29 dX8_difference_143 rfl rfl (by assumption) (by assumption) (by omega) ?_
                refine r_getR (q := 149) C f_X8_208 dX8_difference_146 rfl rfl (by assumption) (by assumption) (by omega) ?_
                refine r_il3 (q := 150) C dX8_difference_149 rfl ?_
                refine r_iald (q := 151) C (jN) dX8_difference_150 rfl (by assumption) (by omega) (by omega) (by omega) (by decide) ?_
                exact r_iret C hr dX8_difference_151 (by decide) (by decide) ⟨_, rfl, rfl, by rw [hs, if_pos br35, f4]; simp only [runK]; rw [if_neg (by omega), if_neg (by omega), if_neg (by omega)], hre⟩
            · refine r_bipush (q := 82) C dX8_difference_80 (by decide) rfl ?_
              exact r_iret C hr dX8_difference_82 (by decide) (by decide) ⟨_, rfl, rfl, by rw [hs, if_pos br35, List.getElem?_eq_none (by omega)], hre⟩
          · refine r_ifne_f (q := 44) (q2 := 41) C (by decide) (by omega) dX8_difference_38 (by decide) rfl ?_
            refine r_bipush (q := 43) C dX8_difference_41 (by decide) rfl ?_
            exact r_iret C hr dX8_difference_43 (by decide) (by decide) ⟨_, rfl, rfl, by rw [hs, if_neg br35], fun _ _ => rfl⟩
        · refine r_ifne_f (q := 32) (q2 := 30) C (by decide) (by omega) dX8_difference_27 (by decide) rfl ?_
          refine r_iconst (q := 31) C dX8_difference_30 rfl ?_
          exact r_iret C hr dX8_difference_31 (by decide) (by decide) ⟨_, rfl, rfl, by rw [fDiff, if_neg (fun hc => br24 hc.2.2.2)], fun _ _ => rfl⟩
    · refine r_ifeq_t (q := 30) C (by decide) (by omega) dX8_difference_13 (by decide) ?_
      refine r_iconst (q := 31) C dX8_difference_30 rfl ?_
      exact r_iret C hr dX8_difference_31 (by decide) (by decide) ⟨_, rfl, rfl, by rw [fDiff, if_neg (fun hc => br10 hc.2.1)], fun _ _ => rfl⟩
  · refine r_ifeq_t (q := 30) C (by decide) (by omega) dX8_difference_5 (by decide) ?_
    refine r_iconst (q := 31) C dX8_difference_30 rfl ?_
    exact r_iret C hr dX8_difference_31 (by decide) (by decide) ⟨_, rfl, rfl, by rw [fDiff, if_neg (fun hc => br2 hc.1)], fun _ _ => rfl⟩
