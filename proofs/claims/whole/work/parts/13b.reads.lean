set_option maxRecDepth 20000 in
set_option maxHeartbeats 8000000 in
theorem c_X8_needs {T : oT} {σ : oM} {xC : Nat} {A : Nat → Int} {Bd : Int} (hX : oX T xC) (hR : oHR σ (xC + 1) A) (hI : oI Bd A) {z : Int} (hz : o_r z) : MS yX8_needs cX8_needs 2 (some FieldType.int) 2 0 0 42 [og xC, oi z] T σ (oP1 (oi (fNeeds A z)) T σ) := by
  have hXc := hX
  obtain ⟨hX0, hXr0, hXr1, hXr2, hXr3, hXr4, hXr5, hXr6, hXn, hXs, hXy, hXq, hXk, hXb, hXbs, hXi, hXT⟩ := hXc
  have hHc := hXn
  obtain ⟨hH0, hH1, hH2, hH3, hH4, hH6, hG1, hG80, hG81, hG82, hG83, hEs, hLs, hHT⟩ := hHc
  have hRc := hR
  obtain ⟨hR0, hR5, hR7, hRw8, hRp, hRl, hRe⟩ := hRc
  have hIn := oI_n hI
  have hIc := hI
  obtain ⟨hI1, hI2, hI3, hI4, hI5, hI6, hI7, hI8, -⟩ := hIc
  refine o_met (by decide +kernel) (Nat.le_of_ble_eq_true rfl) (fun p l ee s m args below meth c G b C hr hn => ?_)
  have C : oCx p s m args meth c G b RX8 cX8_needs 2 := C
  show oW p l ee ({ frames := 2, cells := 0, slots := 0, locals := 42 } : Room) s m args below meth c G b 2 0 0 (MQ below (o_Qc G b (oP1 (oi (fNeeds A z)) T σ)) args s 0 0 (fun q => b ≤ q)) T σ 0 [some (og xC), some (oi z)] []
  refine r_il1 (q := 1) C dX8_needs_0 rfl ?_
  refine r_callSb (q := 4) C (c_X8_isInstrument (by omega)) m_X8_238 dX8_needs_1 rfl rfl (by decide) (by decide) (Nat.le_of_ble_eq_true rfl) (fun br1 => ?_) (fun br1 => ?_)
  · refine r_ifeq_f (q := 18) (q2 := 7) C (by decide) (by omega) dX8_needs_4 (by decide) rfl ?_
    have hbr1 := br1
    obtain ⟨iN, rfl⟩ : ∃ iN : Nat, z = (iN : Int) := ⟨z.toNat, by omega⟩
    have hpp : ∀ j, j < 6 → 0 ≤ σ (xC + 1 + 82) j ∧ σ (xC + 1 + 82) j ≤ 1000 := fun j hj => by
      rw [hRp j hj]
      have := hI6 j hj
      omega
    refine r_al0 (q := 8) C dX8_needs_7 rfl ?_
    refine r_getR (q := 11) C f_X8_10 dX8_needs_8 rfl rfl (by assumption) (by assumption) (by omega) ?_
    refine r_il1 (q := 12) C dX8_needs_11 rfl ?_
    refine r_callV1 (q := 15) C (c_X6_desks (ix := iN) hXn (by omega) (hpp iN (by omega))) m_X8_244 (by assumption) (by omega) dX8_needs_12 rfl rfl (by decide) (by decide) (Nat.le_of_ble_eq_true rfl) ?_
    refine r_goto (q := 19) C dX8_needs_15 (by decide) ?_
    refine r_iret C hr dX8_needs_19 (by decide) (by decide) ?_
    refine ⟨?_, rfl, rfl⟩
    rw [fNeeds, if_pos hbr1, Int.toNat_natCast, deskF_congr (f := σ (xC + 1 + 82)) (g := fun j => A (11 + j)) (hRp iN (by omega))]
  · refine r_ifeq_t (q := 18) C (by decide) (by omega) dX8_needs_4 (by decide) ?_
    refine r_iconst (q := 19) C dX8_needs_18 rfl ?_
    exact r_iret C hr dX8_needs_19 (by decide) (by decide) ⟨by rw [fNeeds, if_neg br1], rfl, rfl⟩
set_option maxRecDepth 20000 in
set_option maxHeartbeats 8000000 in
theorem c_X8_seconds {T : oT} {σ : oM} {xC : Nat} {A : Nat → Int} {Bd : Int} (hX : oX T xC) (hR : oHR σ (xC + 1) A) (hI : oI Bd A) {z v w : Int} (hz : o_r z) (hv : o_r v) (hw : o_r w) : MS yX8_seconds cX8_seconds 4 (some FieldType.int) 3 0 0 65 [og xC, oi z, oi v, oi w] T σ (oP1 (oi (fSeconds A z v w)) T σ) := by
  have hXc := hX
  obtain ⟨hX0, hXr0, hXr1, hXr2, hXr3, hXr4, hXr5, hXr6, hXn, hXs, hXy, hXq, hXk, hXb, hXbs, hXi, hXT⟩ := hXc
  have hHc := hXn
  obtain ⟨hH0, hH1, hH2, hH3, hH4, hH6, hG1, hG80, hG81, hG82, hG83, hEs, hLs, hHT⟩ := hHc
  have hRc := hR
  obtain ⟨hR0, hR5, hR7, hRw8, hRp, hRl, hRe⟩ := hRc
  have hIn := oI_n hI
  have hIc := hI
  obtain ⟨hI1, hI2, hI3, hI4, hI5, hI6, hI7, hI8, -⟩ := hIc
  refine o_met (by decide +kernel) (Nat.le_of_ble_eq_true rfl) (fun p l ee s m args below meth c G b C hr hn => ?_)
  have C : oCx p s m args meth c G b RX8 cX8_seconds 4 := C
  show oW p l ee ({ frames := 3, cells := 0, slots := 0, locals := 65 } : Room) s m args below meth c G b 4 0 0 (MQ below (o_Qc G b (oP1 (oi (fSeconds A z v w)) T σ)) args s 0 0 (fun q => b ≤ q)) T σ 0 [some (og xC), some (oi z), some (oi v), some (oi w)] []
  refine r_al0 (q := 1) C dX8_seconds_0 rfl ?_
  refine r_il1 (q := 2) C dX8_seconds_1 rfl ?_
  refine r_il2 (q := 3) C dX8_seconds_2 rfl ?_
  refine r_callVb (q := 6) C (c_X8_isBar hX hR hI (by omega) (by omega)) m_X8_103 (by assumption) (by omega) dX8_seconds_3 rfl rfl (by decide) (by decide) (Nat.le_of_ble_eq_true rfl) (fun br3 => ?_) (fun br3 => ?_)
  · refine r_ifeq_f (q := 18) (q2 := 9) C (by decide) (by omega) dX8_seconds_6 (by decide) rfl ?_
    refine r_al0 (q := 10) C dX8_seconds_9 rfl ?_
    refine r_il1 (q := 11) C dX8_seconds_10 rfl ?_
    refine r_il3 (q := 12) C dX8_seconds_11 rfl ?_
    refine r_callVb (q := 15) C (c_X8_isBar hX hR hI (by omega) (by omega)) m_X8_103 (by assumption) (by omega) dX8_seconds_12 rfl rfl (by decide) (by decide) (Nat.le_of_ble_eq_true rfl) (fun br12 => ?_) (fun br12 => ?_)
    · refine r_ifne_t (q := 20) C (by decide) (by omega) dX8_seconds_15 (by decide) ?_
      refine r_il3 (q := 21) C dX8_seconds_20 rfl ?_
      refine r_il2 (q := 22) C dX8_seconds_21 rfl ?_
      refine r_icge (q := 28) (q2 := 25) C (by omega) (by omega) dX8_seconds_22 (by decide) rfl (fun br22 => ?_) (fun br22 => ?_)
      · have hs := fSeconds.eq_1 A z v w
        rw [if_pos ⟨br3, br12⟩, if_neg (by omega)] at hs
        obtain ⟨eN, bN, rfl, rfl, heN, heN6, hbN1, hbN2, hbN9⟩ := isBr_n hI br3
        have hEj0 := (hEs eN (by omega)).1
        have hEd := (hEs eN (by omega)).2
        have hEj1 := hEd.1
        have hRE := oHR_e hR (ex := eN) (by omega)
        have hIE := oI_b hI (ex := eN) (by omega)
        obtain ⟨hRE0, hRE1, hRE2⟩ := hRE
        have hREc : ∀ ix, ix < 6 → _ := fun ix hi => oHR_c hR (ex := eN) (ix := ix) (by omega) hi
        have hREb : ∀ jx, 1 ≤ jx → jx ≤ nBr A eN → _ := fun jx j1 j2 => oHR_b hR (ex := eN) (jx := jx) (by omega) j1 j2
        have hEdc := hEd
        obtain ⟨hE0, hE3, hE4, hE5, hE6, hE7, hE8, hE9, hE10, hA1, hA2, hA3, hA4, hA5, hRw, hA10, hA11, hA12, hTe⟩ := hEdc
        obtain ⟨hb1, hb2, hb3, hb4, hb5⟩ := hREb bN hbN1 hbN2
        obtain ⟨wN, rfl⟩ : ∃ wN : Nat, w = (wN : Int) := ⟨w.toNat, by omega⟩
        have hwB : wN ≤ nBr A eN := by
          have h := br12.2.2
          rw [Int.toNat_natCast] at h
          omega
        have hbt : ∀ i, 1 ≤ i → i ≤ nBr A eN → 1 ≤ σ ((xC + 1 + 2 + 13 * eN) + 3) i ∧ σ ((xC + 1 + 2 + 13 * eN) + 3) i ≤ 9 := fun i i1 i2 => by
          rw [(hREb i i1 i2).2.2.1]
          exact (oIE_bt hIE.1).1 i i1 i2
        have htm : ∀ i, 1 ≤ i → i ≤ nBr A eN → σ ((xC + 1 + 2 + 13 * eN) + 4) i = 0 ∨ (200 ≤ σ ((xC + 1 + 2 + 13 * eN) + 4) i ∧ σ ((xC + 1 + 2 + 13 * eN) + 4) i ≤ 2500) := fun i i1 i2 => by
          rw [(hREb i i1 i2).2.2.2.1]
          exact (oIE_bt hIE.1).2 i i1 i2
        have hdc : ∀ j, 1 ≤ j → j ≤ nBr A eN → edD (σ ((xC + 1 + 2 + 13 * eN) + 3)) (σ ((xC + 1 + 2 + 13 * eN) + 4)) j = dEd A eN j := fun j j1 j2 => edD_congr (hREb j j1 j2).2.2.1 (fun i i1 i2 => (hREb i i1 (by omega)).2.2.2.1)
        rw [Int.toNat_natCast, Int.toNat_natCast, Int.toNat_natCast] at hs
        obtain ⟨E, hpn, -, -⟩ := dur_pn (sx := bN) (n := wN - bN) hIE.1 (by omega) hbN1 (by omega)
        rw [show wN - bN + 1 = wN + 1 - bN by omega] at hpn
        have hdd := durF_congr (n := wN + 1 - bN) (s := bN) (fun j j1 j2 => hdc j (by omega) (by omega))
        refine r_al0 (q := 29) C dX8_seconds_28 rfl ?_
        refine r_getR (q := 32) C f_X8_10 dX8_seconds_29 rfl rfl (by assumption) (by assumption) (by omega) ?_
        refine r_getR (q := 35) C f_X8_107 dX8_seconds_32 rfl rfl (by assumption) (by assumption) (by omega) ?_
        refine r_il1 (q := 36) C dX8_seconds_35 rfl ?_
        refine r_aald (q := 37) C (eN) dX8_seconds_36 rfl (by assumption) (by omega) (by omega) (by omega) (by decide) hEj0 rfl rfl (by decide) (by decide) ?_
        refine r_il2 (q := 38) C dX8_seconds_37 rfl ?_
        refine r_il3 (q := 39) C dX8_seconds_38 rfl ?_
        refine r_callV1 (q := 42) C (c_X4_duration (fx := bN) (tx := wN) hEd hRE2 (by omega) hbt htm hbN1 (by omega) hwB) m_X8_217 (by assumption) (by omega) dX8_seconds_39 rfl rfl (by decide) (by decide) (Nat.le_of_ble_eq_true rfl) ?_
        rw [hdd]
        refine r_callS1 (q := 45) C (c_X8_bitsOf hpn) m_X8_221 dX8_seconds_42 rfl rfl (by decide) (by decide) (Nat.le_of_ble_eq_true rfl) ?_
        exact r_iret C hr dX8_seconds_45 (by decide) (by decide) ⟨by rw [hs], rfl, rfl⟩
      · refine r_bipush (q := 27) C dX8_seconds_25 (by decide) rfl ?_
        exact r_iret C hr dX8_seconds_27 (by decide) (by decide) ⟨by rw [fSeconds, if_pos ⟨br3, br12⟩, if_pos (by omega)], rfl, rfl⟩
    · refine r_ifne_f (q := 20) (q2 := 18) C (by decide) (by omega) dX8_seconds_15 (by decide) rfl ?_
      refine r_iconst (q := 19) C dX8_seconds_18 rfl ?_
      exact r_iret C hr dX8_seconds_19 (by decide) (by decide) ⟨by rw [fSeconds, if_neg (fun hc => br12 hc.2)], rfl, rfl⟩
  · refine r_ifeq_t (q := 18) C (by decide) (by omega) dX8_seconds_6 (by decide) ?_
    refine r_iconst (q := 19) C dX8_seconds_18 rfl ?_
    exact r_iret C hr dX8_seconds_19 (by decide) (by decide) ⟨by rw [fSeconds, if_neg (fun hc => br3 hc.1)], rfl, rfl⟩
set_option maxRecDepth 20000 in
set_option maxHeartbeats 8000000 in
theorem c_X8_length {T : oT} {σ : oM} {xC : Nat} {A : Nat → Int} {Bd : Int} (hX : oX T xC) (hR : oHR σ (xC + 1) A) (hI : oI Bd A) {z : Int} (hz : o_r z) : MS yX8_length cX8_length 2 (some FieldType.int) 3 0 0 67 [og xC, oi z] T σ (oP1 (oi (fLength A z)) T σ) := by
  have hXc := hX
  obtain ⟨hX0, hXr0, hXr1, hXr2, hXr3, hXr4, hXr5, hXr6, hXn, hXs, hXy, hXq, hXk, hXb, hXbs, hXi, hXT⟩ := hXc
  have hHc := hXn
  obtain ⟨hH0, hH1, hH2, hH3, hH4, hH6, hG1, hG80, hG81, hG82, hG83, hEs, hLs, hHT⟩ := hHc
  have hRc := hR
  obtain ⟨hR0, hR5, hR7, hRw8, hRp, hRl, hRe⟩ := hRc
  have hIn := oI_n hI
  have hIc := hI
  obtain ⟨hI1, hI2, hI3, hI4, hI5, hI6, hI7, hI8, -⟩ := hIc
  refine o_met (by decide +kernel) (Nat.le_of_ble_eq_true rfl) (fun p l ee s m args below meth c G b C hr hn => ?_)
  have C : oCx p s m args meth c G b RX8 cX8_length 2 := C
  show oW p l ee ({ frames := 3, cells := 0, slots := 0, locals := 67 } : Room) s m args below meth c G b 2 0 0 (MQ below (o_Qc G b (oP1 (oi (fLength A z)) T σ)) args s 0 0 (fun q => b ≤ q)) T σ 0 [some (og xC), some (oi z)] []
  refine r_al0 (q := 1) C dX8_length_0 rfl ?_
  refine r_il1 (q := 2) C dX8_length_1 rfl ?_
  refine r_callVb (q := 5) C (c_X8_isEdition hX hR hI (by omega)) m_X8_87 (by assumption) (by omega) dX8_length_2 rfl rfl (by decide) (by decide) (Nat.le_of_ble_eq_true rfl) (fun br2 => ?_) (fun br2 => ?_)
  · refine r_ifne_t (q := 10) C (by decide) (by omega) dX8_length_5 (by decide) ?_
    have hs := fLength.eq_1 A z
    rw [if_pos br2] at hs
    obtain ⟨eN, rfl, heN, heN6⟩ := isEd_n hI br2
    have hEj0 := (hEs eN (by omega)).1
    have hEd := (hEs eN (by omega)).2
    have hEj1 := hEd.1
    have hRE := oHR_e hR (ex := eN) (by omega)
    have hIE := oI_b hI (ex := eN) (by omega)
    obtain ⟨hRE0, hRE1, hRE2⟩ := hRE
    have hREc : ∀ ix, ix < 6 → _ := fun ix hi => oHR_c hR (ex := eN) (ix := ix) (by omega) hi
    have hREb : ∀ jx, 1 ≤ jx → jx ≤ nBr A eN → _ := fun jx j1 j2 => oHR_b hR (ex := eN) (jx := jx) (by omega) j1 j2
    have hbt : ∀ i, 1 ≤ i → i ≤ nBr A eN → 1 ≤ σ ((xC + 1 + 2 + 13 * eN) + 3) i ∧ σ ((xC + 1 + 2 + 13 * eN) + 3) i ≤ 9 := fun i i1 i2 => by
      rw [(hREb i i1 i2).2.2.1]
      exact (oIE_bt hIE.1).1 i i1 i2
    have htm : ∀ i, 1 ≤ i → i ≤ nBr A eN → σ ((xC + 1 + 2 + 13 * eN) + 4) i = 0 ∨ (200 ≤ σ ((xC + 1 + 2 + 13 * eN) + 4) i ∧ σ ((xC + 1 + 2 + 13 * eN) + 4) i ≤ 2500) := fun i i1 i2 => by
      rw [(hREb i i1 i2).2.2.2.1]
      exact (oIE_bt hIE.1).2 i i1 i2
    have hdc : ∀ j, 1 ≤ j → j ≤ nBr A eN → edD (σ ((xC + 1 + 2 + 13 * eN) + 3)) (σ ((xC + 1 + 2 + 13 * eN) + 4)) j = dEd A eN j := fun j j1 j2 => edD_congr (hREb j j1 j2).2.2.1 (fun i i1 i2 => (hREb i i1 (by omega)).2.2.2.1)
    rw [Int.toNat_natCast] at hs
    have hdd := durF_congr (n := nBr A eN) (s := 1) (fun j j1 j2 => hdc j (by omega) (by omega))
    refine r_al0 (q := 11) C dX8_length_10 rfl ?_
    refine r_getR (q := 14) C f_X8_10 dX8_length_11 rfl rfl (by assumption) (by assumption) (by omega) ?_
    refine r_getR (q := 17) C f_X8_107 dX8_length_14 rfl rfl (by assumption) (by assumption) (by omega) ?_
    refine r_il1 (q := 18) C dX8_length_17 rfl ?_
    refine r_aald (q := 19) C (eN) dX8_length_18 rfl (by assumption) (by omega) (by omega) (by omega) (by decide) hEj0 rfl rfl (by decide) (by decide) ?_
    refine r_callV1 (q := 22) C (c_X4_wholeDuration hEd hRE2 (by omega) hbt htm (by omega)) m_X8_225 (by assumption) (by omega) dX8_length_19 rfl rfl (by decide) (by decide) (Nat.le_of_ble_eq_true rfl) ?_
    rw [hdd]
    refine r_f2i (q := 23) (z := ((FP.f2i (durF (dEd A eN) 1 (nBr A eN))).toInt)) C ((Int32.ofInt_toInt _).symm) dX8_length_22 rfl ?_
    exact r_iret C hr dX8_length_23 (by decide) (by decide) ⟨by rw [hs], rfl, rfl⟩
  · refine r_ifne_f (q := 10) (q2 := 8) C (by decide) (by omega) dX8_length_5 (by decide) rfl ?_
    refine r_iconst (q := 9) C dX8_length_8 rfl ?_
    exact r_iret C hr dX8_length_9 (by decide) (by decide) ⟨by rw [fLength, if_neg br2], rfl, rfl⟩
set_option maxRecDepth 20000 in
set_option maxHeartbeats 8000000 in
theorem c_X8_barAt {T : oT} {σ : oM} {xC : Nat} {A : Nat → Int} {Bd : Int} (hX : oX T xC) (hR : oHR σ (xC + 1) A) (hI : oI Bd A) {z v : Int} (hz : o_r z) (hv : o_r v) : MS yX8_barAt cX8_barAt 4 (some FieldType.int) 2 0 0 45 [og xC, oi z, oi v] T σ (oP1 (oi (fBarAt A z v)) T σ) := by
  have hXc := hX
  obtain ⟨hX0, hXr0, hXr1, hXr2, hXr3, hXr4, hXr5, hXr6, hXn, hXs, hXy, hXq, hXk, hXb, hXbs, hXi, hXT⟩ := hXc
  have hHc := hXn
  obtain ⟨hH0, hH1, hH2, hH3, hH4, hH6, hG1, hG80, hG81, hG82, hG83, hEs, hLs, hHT⟩ := hHc
  have hRc := hR
  obtain ⟨hR0, hR5, hR7, hRw8, hRp, hRl, hRe⟩ := hRc
  have hIn := oI_n hI
  have hIc := hI
  obtain ⟨hI1, hI2, hI3, hI4, hI5, hI6, hI7, hI8, -⟩ := hIc
  refine o_met (by decide +kernel) (Nat.le_of_ble_eq_true rfl) (fun p l ee s m args below meth c G b C hr hn => ?_)
  have C : oCx p s m args meth c G b RX8 cX8_barAt 4 := C
  show oW p l ee ({ frames := 2, cells := 0, slots := 0, locals := 45 } : Room) s m args below meth c G b 4 0 0 (MQ below (o_Qc G b (oP1 (oi (fBarAt A z v)) T σ)) args s 0 0 (fun q => b ≤ q)) T σ 0 [some (og xC), some (oi z), some (oi v), none] []
  refine r_al0 (q := 1) C dX8_barAt_0 rfl ?_
  refine r_il1 (q := 2) C dX8_barAt_1 rfl ?_
  refine r_callVb (q := 5) C (c_X8_isEdition hX hR hI (by omega)) m_X8_87 (by assumption) (by omega) dX8_barAt_2 rfl rfl (by decide) (by decide) (Nat.le_of_ble_eq_true rfl) (fun br2 => ?_) (fun br2 => ?_)
  · refine r_ifne_t (q := 10) C (by decide) (by omega) dX8_barAt_5 (by decide) ?_
    refine r_il2 (q := 11) C dX8_barAt_10 rfl ?_
    refine r_ifge (q := 17) (q2 := 14) C (by omega) dX8_barAt_11 (by decide) rfl (fun br11 => ?_) (fun br11 => ?_)
    · have hs := fBarAt.eq_1 A z v
      rw [if_pos br2] at hs
      obtain ⟨eN, rfl, heN, heN6⟩ := isEd_n hI br2
      have hEj0 := (hEs eN (by omega)).1
      have hEd := (hEs eN (by omega)).2
      have hEj1 := hEd.1
      have hRE := oHR_e hR (ex := eN) (by omega)
      have hIE := oI_b hI (ex := eN) (by omega)
      obtain ⟨hRE0, hRE1, hRE2⟩ := hRE
      have hREc : ∀ ix, ix < 6 → _ := fun ix hi => oHR_c hR (ex := eN) (ix := ix) (by omega) hi
      have hREb : ∀ jx, 1 ≤ jx → jx ≤ nBr A eN → _ := fun jx j1 j2 => oHR_b hR (ex := eN) (jx := jx) (by omega) j1 j2
      have hbt : ∀ i, 1 ≤ i → i ≤ nBr A eN → 1 ≤ σ ((xC + 1 + 2 + 13 * eN) + 3) i ∧ σ ((xC + 1 + 2 + 13 * eN) + 3) i ≤ 9 := fun i i1 i2 => by
        rw [(hREb i i1 i2).2.2.1]
        exact (oIE_bt hIE.1).1 i i1 i2
      have htm : ∀ i, 1 ≤ i → i ≤ nBr A eN → σ ((xC + 1 + 2 + 13 * eN) + 4) i = 0 ∨ (200 ≤ σ ((xC + 1 + 2 + 13 * eN) + 4) i ∧ σ ((xC + 1 + 2 + 13 * eN) + 4) i ≤ 2500) := fun i i1 i2 => by
        rw [(hREb i i1 i2).2.2.2.1]
        exact (oIE_bt hIE.1).2 i i1 i2
      have hdc : ∀ j, 1 ≤ j → j ≤ nBr A eN → edD (σ ((xC + 1 + 2 + 13 * eN) + 3)) (σ ((xC + 1 + 2 + 13 * eN) + 4)) j = dEd A eN j := fun j j1 j2 => edD_congr (hREb j j1 j2).2.2.1 (fun i i1 i2 => (hREb i i1 (by omega)).2.2.2.1)
      rw [Int.toNat_natCast] at hs
      rw [if_neg (by omega)] at hs
      have hdd := fbF_congr (ux := FP.i2f (Int32.ofInt v)) hdc (nBr A eN) 1 (by omega)
      have hfin := fbF_in (dx := dEd A eN) (ux := FP.i2f (Int32.ofInt v)) (nBr A eN) 1
      refine r_al0 (q := 18) C dX8_barAt_17 rfl ?_
      refine r_getR (q := 21) C f_X8_10 dX8_barAt_18 rfl rfl (by assumption) (by assumption) (by omega) ?_
      refine r_getR (q := 24) C f_X8_107 dX8_barAt_21 rfl rfl (by assumption) (by assumption) (by omega) ?_
      refine r_il1 (q := 25) C dX8_barAt_24 rfl ?_
      refine r_aald (q := 26) C (eN) dX8_barAt_25 rfl (by assumption) (by omega) (by omega) (by omega) (by decide) hEj0 rfl rfl (by decide) (by decide) ?_
      refine r_il2 (q := 27) C dX8_barAt_26 rfl ?_
      refine r_i2f (q := 28) C dX8_barAt_27 rfl ?_
      refine r_callV1 (q := 31) C (c_X4_firstBarBeyond (ux := FP.i2f (Int32.ofInt v)) hEd hRE2 (by omega) hbt htm) m_X8_229 (by assumption) (by omega) dX8_barAt_28 rfl rfl (by decide) (by decide) (Nat.le_of_ble_eq_true rfl) ?_
      rw [hdd]
      refine r_is3 (q := 32) C dX8_barAt_31 rfl (by decide) ?_
      refine r_il3 (q := 33) C dX8_barAt_32 rfl ?_
      refine r_ifne (q := 41) (q2 := 36) C (by omega) dX8_barAt_33 (by decide) rfl (fun br33 => ?_) (fun br33 => ?_)
      · refine r_il3 (q := 42) C dX8_barAt_41 rfl ?_
        exact r_iret C hr dX8_barAt_42 (by decide) (by decide) ⟨by rw [hs, if_neg (by omega)], rfl, rfl⟩
      · refine r_bipush (q := 38) C dX8_barAt_36 (by decide) rfl ?_
        refine r_goto (q := 42) C dX8_barAt_38 (by decide) ?_
        exact r_iret C hr dX8_barAt_42 (by decide) (by decide) ⟨by rw [hs, if_pos (by omega)], rfl, rfl⟩
    · refine r_bipush (q := 16) C dX8_barAt_14 (by decide) rfl ?_
      exact r_iret C hr dX8_barAt_16 (by decide) (by decide) ⟨by rw [fBarAt, if_pos br2, if_pos (by omega)], rfl, rfl⟩
  · refine r_ifne_f (q := 10) (q2 := 8) C (by decide) (by omega) dX8_barAt_5 (by decide) rfl ?_
    refine r_iconst (q := 9) C dX8_barAt_8 rfl ?_
    exact r_iret C hr dX8_barAt_9 (by decide) (by decide) ⟨by rw [fBarAt, if_neg br2], rfl, rfl⟩
set_option maxRecDepth 20000 in
set_option maxHeartbeats 8000000 in
theorem c_X8_pace {T : oT} {σ : oM} {xC : Nat} {A : Nat → Int} {Bd : Int} (hX : oX T xC) (hR : oHR σ (xC + 1) A) (hI : oI Bd A) {z : Int} (hz : o_r z) : MS yX8_pace cX8_pace 3 (some FieldType.int) 3 0 0 67 [og xC, oi z] T σ (oP1 (oi (fPace A z)) T σ) := by
  have hXc := hX
  obtain ⟨hX0, hXr0, hXr1, hXr2, hXr3, hXr4, hXr5, hXr6, hXn, hXs, hXy, hXq, hXk, hXb, hXbs, hXi, hXT⟩ := hXc
  have hHc := hXn
  obtain ⟨hH0, hH1, hH2, hH3, hH4, hH6, hG1, hG80, hG81, hG82, hG83, hEs, hLs, hHT⟩ := hHc
  have hRc := hR
  obtain ⟨hR0, hR5, hR7, hRw8, hRp, hRl, hRe⟩ := hRc
  have hIn := oI_n hI
  have hIc := hI
  obtain ⟨hI1, hI2, hI3, hI4, hI5, hI6, hI7, hI8, -⟩ := hIc
  refine o_met (by decide +kernel) (Nat.le_of_ble_eq_true rfl) (fun p l ee s m args below meth c G b C hr hn => ?_)
  have C : oCx p s m args meth c G b RX8 cX8_pace 3 := C
  show oW p l ee ({ frames := 3, cells := 0, slots := 0, locals := 67 } : Room) s m args below meth c G b 3 0 0 (MQ below (o_Qc G b (oP1 (oi (fPace A z)) T σ)) args s 0 0 (fun q => b ≤ q)) T σ 0 [some (og xC), some (oi z), none] []
  refine r_al0 (q := 1) C dX8_pace_0 rfl ?_
  refine r_il1 (q := 2) C dX8_pace_1 rfl ?_
  refine r_callVb (q := 5) C (c_X8_isEdition hX hR hI (by omega)) m_X8_87 (by assumption) (by omega) dX8_pace_2 rfl rfl (by decide) (by decide) (Nat.le_of_ble_eq_true rfl) (fun br2 => ?_) (fun br2 => ?_)
  · refine r_ifne_t (q := 10) C (by decide) (by omega) dX8_pace_5 (by decide) ?_
    have hs := fPace.eq_1 A z
    rw [if_pos br2] at hs
    obtain ⟨eN, rfl, heN, heN6⟩ := isEd_n hI br2
    have hEj0 := (hEs eN (by omega)).1
    have hEd := (hEs eN (by omega)).2
    have hEj1 := hEd.1
    have hRE := oHR_e hR (ex := eN) (by omega)
    have hIE := oI_b hI (ex := eN) (by omega)
    obtain ⟨hRE0, hRE1, hRE2⟩ := hRE
    have hREc : ∀ ix, ix < 6 → _ := fun ix hi => oHR_c hR (ex := eN) (ix := ix) (by omega) hi
    have hREb : ∀ jx, 1 ≤ jx → jx ≤ nBr A eN → _ := fun jx j1 j2 => oHR_b hR (ex := eN) (jx := jx) (by omega) j1 j2
    have hbt : ∀ i, 1 ≤ i → i ≤ nBr A eN → 1 ≤ σ ((xC + 1 + 2 + 13 * eN) + 3) i ∧ σ ((xC + 1 + 2 + 13 * eN) + 3) i ≤ 9 := fun i i1 i2 => by
      rw [(hREb i i1 i2).2.2.1]
      exact (oIE_bt hIE.1).1 i i1 i2
    have htm : ∀ i, 1 ≤ i → i ≤ nBr A eN → σ ((xC + 1 + 2 + 13 * eN) + 4) i = 0 ∨ (200 ≤ σ ((xC + 1 + 2 + 13 * eN) + 4) i ∧ σ ((xC + 1 + 2 + 13 * eN) + 4) i ≤ 2500) := fun i i1 i2 => by
      rw [(hREb i i1 i2).2.2.2.1]
      exact (oIE_bt hIE.1).2 i i1 i2
    have hdc : ∀ j, 1 ≤ j → j ≤ nBr A eN → edD (σ ((xC + 1 + 2 + 13 * eN) + 3)) (σ ((xC + 1 + 2 + 13 * eN) + 4)) j = dEd A eN j := fun j j1 j2 => edD_congr (hREb j j1 j2).2.2.1 (fun i i1 i2 => (hREb i i1 (by omega)).2.2.2.1)
    rw [Int.toNat_natCast] at hs
    have hdd := durF_congr (n := nBr A eN) (s := 1) (fun j j1 j2 => hdc j (by omega) (by omega))
    have hbb : sumF (fun ix => σ (xC + 1 + 2 + 13 * eN + 3) (ix + 1)) (nBr A eN) = beatF A eN := sumF_congr (fun i hi => (hREb (i + 1) (by omega) (by omega)).2.2.1)
    obtain ⟨hpn1, E, hpn⟩ := pace_pn hIE.1 (by omega) (by omega)
    refine r_al0 (q := 11) C dX8_pace_10 rfl ?_
    refine r_getR (q := 14) C f_X8_10 dX8_pace_11 rfl rfl (by assumption) (by assumption) (by omega) ?_
    refine r_getR (q := 17) C f_X8_107 dX8_pace_14 rfl rfl (by assumption) (by assumption) (by omega) ?_
    refine r_il1 (q := 18) C dX8_pace_17 rfl ?_
    refine r_aald (q := 19) C (eN) dX8_pace_18 rfl (by assumption) (by omega) (by omega) (by omega) (by decide) hEj0 rfl rfl (by decide) (by decide) ?_
    refine r_as2 (q := 20) C dX8_pace_19 rfl (by decide) ?_
    refine r_al2 (q := 21) C dX8_pace_20 rfl ?_
    refine r_callV1 (q := 24) C (c_X4_beatsInAll hEd hRE2 (by omega)) m_X8_232 (by assumption) (by omega) dX8_pace_21 rfl rfl (by decide) (by decide) (Nat.le_of_ble_eq_true rfl) ?_
    rw [hbb]
    refine r_i2f (q := 25) C dX8_pace_24 rfl ?_
    refine r_ldcf (q := 27) C k_X8_235 dX8_pace_25 rfl ?_
    refine r_fmul (q := 28) C hpn1 dX8_pace_27 rfl ?_
    refine r_al2 (q := 29) C dX8_pace_28 rfl ?_
    refine r_callV1 (q := 32) C (c_X4_wholeDuration hEd hRE2 (by omega) hbt htm (by omega)) m_X8_225 (by assumption) (by omega) dX8_pace_29 rfl rfl (by decide) (by decide) (Nat.le_of_ble_eq_true rfl) ?_
    rw [hdd]
    refine r_fdiv (q := 33) C (oPN_n32 hpn) dX8_pace_32 rfl ?_
    refine r_callS1 (q := 36) C (c_X8_bitsOf hpn) m_X8_221 dX8_pace_33 rfl rfl (by decide) (by decide) (Nat.le_of_ble_eq_true rfl) ?_
    exact r_iret C hr dX8_pace_36 (by decide) (by decide) ⟨by rw [hs], rfl, rfl⟩
  · refine r_ifne_f (q := 10) (q2 := 8) C (by decide) (by omega) dX8_pace_5 (by decide) rfl ?_
    refine r_iconst (q := 9) C dX8_pace_8 rfl ?_
    exact r_iret C hr dX8_pace_9 (by decide) (by decide) ⟨by rw [fPace, if_neg br2], rfl, rfl⟩
set_option maxRecDepth 20000 in
set_option maxHeartbeats 8000000 in
theorem c_X8_carry {T : oT} {σ : oM} {xC : Nat} {A : Nat → Int} {Bd : Int} (hX : oX T xC) (hR : oHR σ (xC + 1) A) (hI : oI Bd A) {z v w : Int} (hz : o_r z) (hv : o_r v) (hw : o_r w) : MS yX8_carry cX8_carry 5 (some FieldType.int) 3 0 0 65 [og xC, oi z, oi v, oi w] T σ (oP1 (oi (fCarry A z v w)) T σ) := by
  have hXc := hX
  obtain ⟨hX0, hXr0, hXr1, hXr2, hXr3, hXr4, hXr5, hXr6, hXn, hXs, hXy, hXq, hXk, hXb, hXbs, hXi, hXT⟩ := hXc
  have hHc := hXn
  obtain ⟨hH0, hH1, hH2, hH3, hH4, hH6, hG1, hG80, hG81, hG82, hG83, hEs, hLs, hHT⟩ := hHc
  have hRc := hR
  obtain ⟨hR0, hR5, hR7, hRw8, hRp, hRl, hRe⟩ := hRc
  have hIn := oI_n hI
  have hIc := hI
  obtain ⟨hI1, hI2, hI3, hI4, hI5, hI6, hI7, hI8, -⟩ := hIc
  refine o_met (by decide +kernel) (Nat.le_of_ble_eq_true rfl) (fun p l ee s m args below meth c G b C hr hn => ?_)
  have C : oCx p s m args meth c G b RX8 cX8_carry 5 := C
  show oW p l ee ({ frames := 3, cells := 0, slots := 0, locals := 65 } : Room) s m args below meth c G b 5 0 0 (MQ below (o_Qc G b (oP1 (oi (fCarry A z v w)) T σ)) args s 0 0 (fun q => b ≤ q)) T σ 0 [some (og xC), some (oi z), some (oi v), some (oi w), none] []
  refine r_al0 (q := 1) C dX8_carry_0 rfl ?_
  refine r_il1 (q := 2) C dX8_carry_1 rfl ?_
  refine r_il2 (q := 3) C dX8_carry_2 rfl ?_
  refine r_callVb (q := 6) C (c_X8_isBar hX hR hI (by omega) (by omega)) m_X8_103 (by assumption) (by omega) dX8_carry_3 rfl rfl (by decide) (by decide) (Nat.le_of_ble_eq_true rfl) (fun br3 => ?_) (fun br3 => ?_)
  · refine r_ifeq_f (q := 17) (q2 := 9) C (by decide) (by omega) dX8_carry_6 (by decide) rfl ?_
    refine r_al0 (q := 10) C dX8_carry_9 rfl ?_
    refine r_il3 (q := 11) C dX8_carry_10 rfl ?_
    refine r_callVb (q := 14) C (c_X8_isEdition hX hR hI (by omega)) m_X8_87 (by assumption) (by omega) dX8_carry_11 rfl rfl (by decide) (by decide) (Nat.le_of_ble_eq_true rfl) (fun br11 => ?_) (fun br11 => ?_)
    · refine r_ifne_t (q := 19) C (by decide) (by omega) dX8_carry_14 (by decide) ?_
      have hs := fCarry.eq_1 A z v w
      rw [if_pos ⟨br3, br11⟩] at hs
      obtain ⟨eN, bN, rfl, rfl, heN, heN6, hbN1, hbN2, hbN9⟩ := isBr_n hI br3
      have hEj0 := (hEs eN (by omega)).1
      have hEd := (hEs eN (by omega)).2
      have hEj1 := hEd.1
      have hRE := oHR_e hR (ex := eN) (by omega)
      have hIE := oI_b hI (ex := eN) (by omega)
      obtain ⟨hRE0, hRE1, hRE2⟩ := hRE
      have hREc : ∀ ix, ix < 6 → _ := fun ix hi => oHR_c hR (ex := eN) (ix := ix) (by omega) hi
      have hREb : ∀ jx, 1 ≤ jx → jx ≤ nBr A eN → _ := fun jx j1 j2 => oHR_b hR (ex := eN) (jx := jx) (by omega) j1 j2
      have hEdc := hEd
      obtain ⟨hE0, hE3, hE4, hE5, hE6, hE7, hE8, hE9, hE10, hA1, hA2, hA3, hA4, hA5, hRw, hA10, hA11, hA12, hTe⟩ := hEdc
      obtain ⟨hb1, hb2, hb3, hb4, hb5⟩ := hREb bN hbN1 hbN2
      obtain ⟨kN, rfl, hkN, hkN6⟩ := isEd_n hI br11
      rw [Int.toNat_natCast, Int.toNat_natCast, Int.toNat_natCast] at hs
      have hEj0k := (hEs kN (by omega)).1
      have hEdk := (hEs kN (by omega)).2
      have hEj1k := hEdk.1
      have hIEk := oI_b hI (ex := kN) (by omega)
      have hrk : ∀ j, 1 ≤ j → j ≤ nBr A kN → σ (xC + 1 + 2 + 13 * kN + 1) j = A (190 + 813 * kN + 8 * j) := fun j j1 j2 => (oHR_b hR hkN j1 j2).1
      have hdd := fstAt_congr (f := σ (xC + 1 + 2 + 13 * kN + 1)) (g := fun j => A (190 + 813 * kN + 8 * j)) (v := A (190 + 813 * eN + 8 * bN)) (n := nBr A kN) (j := 1) (fun j j1 j2 => hrk j j1 (by omega))
      have hsp := fstAt_spec (f := fun j => A (190 + 813 * kN + 8 * j)) (v := A (190 + 813 * eN + 8 * bN)) (n := nBr A kN) (j := 1) (by omega)
      have hIb := (hIE.1.2.2.2.2 bN hbN1 hbN2).1
      refine r_al0 (q := 20) C dX8_carry_19 rfl ?_
      refine r_il1 (q := 21) C dX8_carry_20 rfl ?_
      refine r_il3 (q := 22) C dX8_carry_21 rfl ?_
      refine r_callVb (q := 25) C (c_X8_areOfOneWork hX hR hI heN hkN) m_X8_179 (by assumption) (by omega) dX8_carry_22 rfl rfl (by decide) (by decide) (Nat.le_of_ble_eq_true rfl) (fun br22 => ?_) (fun br22 => ?_)
      · refine r_ifne_t (q := 31) C (by decide) (by omega) dX8_carry_25 (by decide) ?_
        refine r_al0 (q := 32) C dX8_carry_31 rfl ?_
        refine r_getR (q := 35) C f_X8_10 dX8_carry_32 rfl rfl (by assumption) (by assumption) (by omega) ?_
        refine r_getR (q := 38) C f_X8_107 dX8_carry_35 rfl rfl (by assumption) (by assumption) (by omega) ?_
        refine r_il3 (q := 39) C dX8_carry_38 rfl ?_
        refine r_aald (q := 40) C (kN) dX8_carry_39 rfl (by assumption) (by omega) (by omega) (by omega) (by decide) hEj0k rfl rfl (by decide) (by decide) ?_
        refine r_al0 (q := 41) C dX8_carry_40 rfl ?_
        refine r_getR (q := 44) C f_X8_10 dX8_carry_41 rfl rfl (by assumption) (by assumption) (by omega) ?_
        refine r_getR (q := 47) C f_X8_107 dX8_carry_44 rfl rfl (by assumption) (by assumption) (by omega) ?_
        refine r_il1 (q := 48) C dX8_carry_47 rfl ?_
        refine r_aald (q := 49) C (eN) dX8_carry_48 rfl (by assumption) (by omega) (by omega) (by omega) (by decide) hEj0 rfl rfl (by decide) (by decide) ?_
        refine r_getR (q := 52) C f_X8_170 dX8_carry_49 rfl rfl (by assumption) (by assumption) (by omega) ?_
        refine r_il2 (q := 53) C dX8_carry_52 rfl ?_
        refine r_iald (q := 54) C (bN) dX8_carry_53 rfl (by assumption) (by omega) (by omega) (by omega) (by decide) ?_
        refine r_iconst (q := 55) C dX8_carry_54 rfl ?_
        rw [hb1]
        refine r_callV1 (q := 58) C (c_X4_barWith (fx := 1) (vx := A (190 + 813 * eN + 8 * bN)) hEdk (oHR_e hR hkN).2.2 (by omega) (by omega) (by omega) (fun j j1 j2 => by rw [hrk j j1 j2]; have := (hIEk.1.2.2.2.2 j j1 j2).1; omega)) m_X8_182 (by assumption) (by omega) dX8_carry_55 rfl rfl (by decide) (by decide) (Nat.le_of_ble_eq_true rfl) ?_
        rw [show nBr A kN + 1 - 1 = nBr A kN by omega, hdd]
        refine r_is4 (q := 60) C dX8_carry_58 rfl (by decide) ?_
        refine r_il4 (q := 62) C dX8_carry_60 rfl ?_
        refine r_ifne (q := 70) (q2 := 65) C (by omega) dX8_carry_62 (by decide) rfl (fun br62 => ?_) (fun br62 => ?_)
        · refine r_il4 (q := 72) C dX8_carry_70 rfl ?_
          exact r_iret C hr dX8_carry_72 (by decide) (by decide) ⟨by rw [hs, if_pos br22, if_neg (by omega)], rfl, rfl⟩
        · refine r_bipush (q := 67) C dX8_carry_65 (by decide) rfl ?_
          refine r_goto (q := 72) C dX8_carry_67 (by decide) ?_
          exact r_iret C hr dX8_carry_72 (by decide) (by decide) ⟨by rw [hs, if_pos br22, if_pos (by omega)], rfl, rfl⟩
      · refine r_ifne_f (q := 31) (q2 := 28) C (by decide) (by omega) dX8_carry_25 (by decide) rfl ?_
        refine r_bipush (q := 30) C dX8_carry_28 (by decide) rfl ?_
        exact r_iret C hr dX8_carry_30 (by decide) (by decide) ⟨by rw [hs, if_neg br22], rfl, rfl⟩
    · refine r_ifne_f (q := 19) (q2 := 17) C (by decide) (by omega) dX8_carry_14 (by decide) rfl ?_
      refine r_iconst (q := 18) C dX8_carry_17 rfl ?_
      exact r_iret C hr dX8_carry_18 (by decide) (by decide) ⟨by rw [fCarry, if_neg (fun hc => br11 hc.2)], rfl, rfl⟩
  · refine r_ifeq_t (q := 17) C (by decide) (by omega) dX8_carry_6 (by decide) ?_
    refine r_iconst (q := 18) C dX8_carry_17 rfl ?_
    exact r_iret C hr dX8_carry_18 (by decide) (by decide) ⟨by rw [fCarry, if_neg (fun hc => br3 hc.1)], rfl, rfl⟩
