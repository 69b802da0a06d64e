set_option maxRecDepth 20000 in
set_option maxHeartbeats 8000000 in
theorem c_X8_isInstrument {T : oT} {σ : oM} {z : Int} (hz : o_r z) : MS yX8_isInstrument cX8_isInstrument 1 (some FieldType.boolean) 1 0 0 22 [oi z] T σ (oPb (0 ≤ z ∧ z ≤ 5) T σ) := by
  refine o_met (by decide +kernel) (Nat.le_of_ble_eq_true rfl) (fun p l ee s m args below meth c G b C hr hn => ?_)
  have C : oCx p s m args meth c G b RX8 cX8_isInstrument 1 := C
  show oW p l ee ({ frames := 1, cells := 0, slots := 0, locals := 22 } : Room) s m args below meth c G b 1 0 0 (MQ below (o_Qc G b (oPb (0 ≤ z ∧ z ≤ 5) T σ)) args s 0 0 (fun q => b ≤ q)) T σ 0 [some (oi z)] []
  refine r_il0 (q := 1) C dX8_isInstrument_0 rfl ?_
  refine r_iconst (q := 2) C dX8_isInstrument_1 rfl ?_
  refine r_iconst (q := 3) C dX8_isInstrument_2 rfl ?_
  refine r_callSb (q := 6) C (c_X8_within hz (by omega) (by omega)) m_X8_68 dX8_isInstrument_3 rfl rfl (by decide) (by decide) (Nat.le_of_ble_eq_true rfl) (fun br3 => ?_) (fun br3 => ?_)
  · exact r_zret C hr dX8_isInstrument_6 (by decide) (by decide) (by decide) ⟨Or.inl ⟨br3, rfl⟩, rfl, rfl⟩
  · exact r_zret C hr dX8_isInstrument_6 (by decide) (by decide) (by decide) ⟨Or.inr ⟨br3, rfl⟩, rfl, rfl⟩
set_option maxRecDepth 20000 in
set_option maxHeartbeats 8000000 in
theorem c_X8_isBorrower {T : oT} {σ : oM} {z : Int} (hz : o_r z) : MS yX8_isBorrower cX8_isBorrower 1 (some FieldType.boolean) 1 0 0 22 [oi z] T σ (oPb (0 ≤ z ∧ z ≤ 5) T σ) := by
  refine o_met (by decide +kernel) (Nat.le_of_ble_eq_true rfl) (fun p l ee s m args below meth c G b C hr hn => ?_)
  have C : oCx p s m args meth c G b RX8 cX8_isBorrower 1 := C
  show oW p l ee ({ frames := 1, cells := 0, slots := 0, locals := 22 } : Room) s m args below meth c G b 1 0 0 (MQ below (o_Qc G b (oPb (0 ≤ z ∧ z ≤ 5) T σ)) args s 0 0 (fun q => b ≤ q)) T σ 0 [some (oi z)] []
  refine r_il0 (q := 1) C dX8_isBorrower_0 rfl ?_
  refine r_iconst (q := 2) C dX8_isBorrower_1 rfl ?_
  refine r_iconst (q := 3) C dX8_isBorrower_2 rfl ?_
  refine r_callSb (q := 6) C (c_X8_within hz (by omega) (by omega)) m_X8_68 dX8_isBorrower_3 rfl rfl (by decide) (by decide) (Nat.le_of_ble_eq_true rfl) (fun br3 => ?_) (fun br3 => ?_)
  · exact r_zret C hr dX8_isBorrower_6 (by decide) (by decide) (by decide) ⟨Or.inl ⟨br3, rfl⟩, rfl, rfl⟩
  · exact r_zret C hr dX8_isBorrower_6 (by decide) (by decide) (by decide) ⟨Or.inr ⟨br3, rfl⟩, rfl, rfl⟩
set_option maxRecDepth 20000 in
set_option maxHeartbeats 8000000 in
theorem c_X8_isBox {T : oT} {σ : oM} {z : Int} (hz : o_r z) : MS yX8_isBox cX8_isBox 1 (some FieldType.boolean) 1 0 0 22 [oi z] T σ (oPb (0 ≤ z ∧ z ≤ 2) T σ) := by
  refine o_met (by decide +kernel) (Nat.le_of_ble_eq_true rfl) (fun p l ee s m args below meth c G b C hr hn => ?_)
  have C : oCx p s m args meth c G b RX8 cX8_isBox 1 := C
  show oW p l ee ({ frames := 1, cells := 0, slots := 0, locals := 22 } : Room) s m args below meth c G b 1 0 0 (MQ below (o_Qc G b (oPb (0 ≤ z ∧ z ≤ 2) T σ)) args s 0 0 (fun q => b ≤ q)) T σ 0 [some (oi z)] []
  refine r_il0 (q := 1) C dX8_isBox_0 rfl ?_
  refine r_iconst (q := 2) C dX8_isBox_1 rfl ?_
  refine r_iconst (q := 3) C dX8_isBox_2 rfl ?_
  refine r_callSb (q := 6) C (c_X8_within hz (by omega) (by omega)) m_X8_68 dX8_isBox_3 rfl rfl (by decide) (by decide) (Nat.le_of_ble_eq_true rfl) (fun br3 => ?_) (fun br3 => ?_)
  · exact r_zret C hr dX8_isBox_6 (by decide) (by decide) (by decide) ⟨Or.inl ⟨br3, rfl⟩, rfl, rfl⟩
  · exact r_zret C hr dX8_isBox_6 (by decide) (by decide) (by decide) ⟨Or.inr ⟨br3, rfl⟩, rfl, rfl⟩
set_option maxRecDepth 20000 in
set_option maxHeartbeats 8000000 in
theorem c_X8_isError {T : oT} {σ : oM} {z : Int} (hz : o_r z) : MS yX8_isError cX8_isError 1 (some FieldType.boolean) 0 0 0 0 [oi z] T σ (oPb (z < 0 ∧ z ≠ -7) T σ) := by
  refine o_met (by decide +kernel) (Nat.le_of_ble_eq_true rfl) (fun p l ee s m args below meth c G b C hr hn => ?_)
  have C : oCx p s m args meth c G b RX8 cX8_isError 1 := C
  show oW p l ee ({ frames := 0, cells := 0, slots := 0, locals := 0 } : Room) s m args below meth c G b 1 0 0 (MQ below (o_Qc G b (oPb (z < 0 ∧ z ≠ -7) T σ)) args s 0 0 (fun q => b ≤ q)) T σ 0 [some (oi z)] []
  refine r_il0 (q := 1) C dX8_isError_0 rfl ?_
  refine r_ifge (q := 14) (q2 := 4) C (by omega) dX8_isError_1 (by decide) rfl (fun br1 => ?_) (fun br1 => ?_)
  · refine r_iconst (q := 15) C dX8_isError_14 rfl ?_
    exact r_zret C hr dX8_isError_15 (by decide) (by decide) (by decide) ⟨Or.inr ⟨by omega, rfl⟩, rfl, rfl⟩
  · refine r_il0 (q := 5) C dX8_isError_4 rfl ?_
    refine r_bipush (q := 7) C dX8_isError_5 (by decide) rfl ?_
    refine r_iceq (q := 14) (q2 := 10) C (by omega) (by omega) dX8_isError_7 (by decide) rfl (fun br7 => ?_) (fun br7 => ?_)
    · refine r_iconst (q := 15) C dX8_isError_14 rfl ?_
      exact r_zret C hr dX8_isError_15 (by decide) (by decide) (by decide) ⟨Or.inr ⟨by omega, rfl⟩, rfl, rfl⟩
    · refine r_iconst (q := 11) C dX8_isError_10 rfl ?_
      refine r_goto (q := 15) C dX8_isError_11 (by decide) ?_
      exact r_zret C hr dX8_isError_15 (by decide) (by decide) (by decide) ⟨Or.inl ⟨by omega, rfl⟩, rfl, rfl⟩
set_option maxRecDepth 20000 in
set_option maxHeartbeats 8000000 in
theorem c_X8_isEdition {T : oT} {σ : oM} {xC : Nat} {A : Nat → Int} {Bd : Int} (hX : oX T xC) (hR : oHR σ (xC + 1) A) (hI : oI Bd A) {z : Int} (hz : o_r z) : MS yX8_isEdition cX8_isEdition 2 (some FieldType.boolean) 1 0 0 22 [og xC, oi z] T σ (oPb (isEdF A z) T σ) := by
  have hXc := hX
  obtain ⟨hX0, hXr0, hXr1, hXr2, hXr3, hXr4, hXr5, hXr6, hXn, hXs, hXy, hXq, hXk, hXb, hXbs, hXi, hXT⟩ := hXc
  have hHc := hXn
  obtain ⟨hH0, hH1, hH2, hH3, hH4, hH6, hG1, hG80, hG81, hG82, hG83, hEs, hLs, hHT⟩ := hHc
  have hRc := hR
  obtain ⟨hR0, hR5, hR7, hRw8, hRp, hRl, hRe⟩ := hRc
  have hIn := oI_n hI
  have hIc := hI
  obtain ⟨hI1, hI2, hI3, hI4, hI5, hI6, hI7, hI8, -⟩ := hIc
  refine o_met (by decide +kernel) (Nat.le_of_ble_eq_true rfl) (fun p l ee s m args below meth c G b C hr hn => ?_)
  have C : oCx p s m args meth c G b RX8 cX8_isEdition 2 := C
  show oW p l ee ({ frames := 1, cells := 0, slots := 0, locals := 22 } : Room) s m args below meth c G b 2 0 0 (MQ below (o_Qc G b (oPb (isEdF A z) T σ)) args s 0 0 (fun q => b ≤ q)) T σ 0 [some (og xC), some (oi z)] []
  refine r_il1 (q := 1) C dX8_isEdition_0 rfl ?_
  refine r_iconst (q := 2) C dX8_isEdition_1 rfl ?_
  refine r_al0 (q := 3) C dX8_isEdition_2 rfl ?_
  refine r_getR (q := 6) C f_X8_10 dX8_isEdition_3 rfl rfl (by assumption) (by assumption) (by omega) ?_
  refine r_getI (q := 9) C f_X8_76 dX8_isEdition_6 rfl rfl (by assumption) (by omega) ?_
  rw [hR0, hIn.1]
  refine r_iconst (q := 10) C dX8_isEdition_9 rfl ?_
  refine r_isub (q := 11) C dX8_isEdition_10 rfl ?_
  refine r_callSb (q := 14) C (c_X8_within (hi := A 0 - 1) hz (by omega) (by omega)) m_X8_68 dX8_isEdition_11 rfl rfl (by decide) (by decide) (Nat.le_of_ble_eq_true rfl) (fun br11 => ?_) (fun br11 => ?_)
  · exact r_zret C hr dX8_isEdition_14 (by decide) (by decide) (by decide) ⟨Or.inl ⟨br11, rfl⟩, rfl, rfl⟩
  · exact r_zret C hr dX8_isEdition_14 (by decide) (by decide) (by decide) ⟨Or.inr ⟨br11, rfl⟩, rfl, rfl⟩
set_option maxRecDepth 20000 in
set_option maxHeartbeats 8000000 in
theorem c_X8_isLoan {T : oT} {σ : oM} {xC : Nat} {A : Nat → Int} {Bd : Int} (hX : oX T xC) (hR : oHR σ (xC + 1) A) (hI : oI Bd A) {z : Int} (hz : o_r z) : MS yX8_isLoan cX8_isLoan 2 (some FieldType.boolean) 1 0 0 22 [og xC, oi z] T σ (oPb (isLnF A z) T σ) := by
  have hXc := hX
  obtain ⟨hX0, hXr0, hXr1, hXr2, hXr3, hXr4, hXr5, hXr6, hXn, hXs, hXy, hXq, hXk, hXb, hXbs, hXi, hXT⟩ := hXc
  have hHc := hXn
  obtain ⟨hH0, hH1, hH2, hH3, hH4, hH6, hG1, hG80, hG81, hG82, hG83, hEs, hLs, hHT⟩ := hHc
  have hRc := hR
  obtain ⟨hR0, hR5, hR7, hRw8, hRp, hRl, hRe⟩ := hRc
  have hIn := oI_n hI
  have hIc := hI
  obtain ⟨hI1, hI2, hI3, hI4, hI5, hI6, hI7, hI8, -⟩ := hIc
  refine o_met (by decide +kernel) (Nat.le_of_ble_eq_true rfl) (fun p l ee s m args below meth c G b C hr hn => ?_)
  have C : oCx p s m args meth c G b RX8 cX8_isLoan 2 := C
  show oW p l ee ({ frames := 1, cells := 0, slots := 0, locals := 22 } : Room) s m args below meth c G b 2 0 0 (MQ below (o_Qc G b (oPb (isLnF A z) T σ)) args s 0 0 (fun q => b ≤ q)) T σ 0 [some (og xC), some (oi z)] []
  refine r_il1 (q := 1) C dX8_isLoan_0 rfl ?_
  refine r_iconst (q := 2) C dX8_isLoan_1 rfl ?_
  refine r_al0 (q := 3) C dX8_isLoan_2 rfl ?_
  refine r_getR (q := 6) C f_X8_10 dX8_isLoan_3 rfl rfl (by assumption) (by assumption) (by omega) ?_
  refine r_getI (q := 9) C f_X8_292 dX8_isLoan_6 rfl rfl (by assumption) (by omega) ?_
  rw [hR5, hIn.2.1]
  refine r_iconst (q := 10) C dX8_isLoan_9 rfl ?_
  refine r_isub (q := 11) C dX8_isLoan_10 rfl ?_
  refine r_callSb (q := 14) C (c_X8_within (hi := A 1 - 1) hz (by omega) (by omega)) m_X8_68 dX8_isLoan_11 rfl rfl (by decide) (by decide) (Nat.le_of_ble_eq_true rfl) (fun br11 => ?_) (fun br11 => ?_)
  · exact r_zret C hr dX8_isLoan_14 (by decide) (by decide) (by decide) ⟨Or.inl ⟨br11, rfl⟩, rfl, rfl⟩
  · exact r_zret C hr dX8_isLoan_14 (by decide) (by decide) (by decide) ⟨Or.inr ⟨br11, rfl⟩, rfl, rfl⟩
set_option maxRecDepth 20000 in
set_option maxHeartbeats 8000000 in
theorem c_X8_isBar {T : oT} {σ : oM} {xC : Nat} {A : Nat → Int} {Bd : Int} (hX : oX T xC) (hR : oHR σ (xC + 1) A) (hI : oI Bd A) {z v : Int} (hz : o_r z) (hv : o_r v) : MS yX8_isBar cX8_isBar 3 (some FieldType.boolean) 2 0 0 43 [og xC, oi z, oi v] T σ (oPb (isBrF A z v) T σ) := by
  have hXc := hX
  obtain ⟨hX0, hXr0, hXr1, hXr2, hXr3, hXr4, hXr5, hXr6, hXn, hXs, hXy, hXq, hXk, hXb, hXbs, hXi, hXT⟩ := hXc
  have hHc := hXn
  obtain ⟨hH0, hH1, hH2, hH3, hH4, hH6, hG1, hG80, hG81, hG82, hG83, hEs, hLs, hHT⟩ := hHc
  have hRc := hR
  obtain ⟨hR0, hR5, hR7, hRw8, hRp, hRl, hRe⟩ := hRc
  have hIn := oI_n hI
  have hIc := hI
  obtain ⟨hI1, hI2, hI3, hI4, hI5, hI6, hI7, hI8, -⟩ := hIc
  refine o_met (by decide +kernel) (Nat.le_of_ble_eq_true rfl) (fun p l ee s m args below meth c G b C hr hn => ?_)
  have C : oCx p s m args meth c G b RX8 cX8_isBar 3 := C
  show oW p l ee ({ frames := 2, cells := 0, slots := 0, locals := 43 } : Room) s m args below meth c G b 3 0 0 (MQ below (o_Qc G b (oPb (isBrF A z v) T σ)) args s 0 0 (fun q => b ≤ q)) T σ 0 [some (og xC), some (oi z), some (oi v)] []
  refine r_al0 (q := 1) C dX8_isBar_0 rfl ?_
  refine r_il1 (q := 2) C dX8_isBar_1 rfl ?_
  refine r_callVb (q := 5) C (c_X8_isEdition hX hR hI (by omega)) m_X8_87 (by assumption) (by omega) dX8_isBar_2 rfl rfl (by decide) (by decide) (Nat.le_of_ble_eq_true rfl) (fun br2 => ?_) (fun br2 => ?_)
  · refine r_ifeq_f (q := 32) (q2 := 8) C (by decide) (by omega) dX8_isBar_5 (by decide) rfl ?_
    obtain ⟨eN, rfl, heN, heN6⟩ := isEd_n hI br2
    have hEj0 := (hEs eN (by omega)).1
    have hEd := (hEs eN (by omega)).2
    have hEj1 := hEd.1
    have hRE := oHR_e hR (ex := eN) (by omega)
    have hIE := oI_b hI (ex := eN) (by omega)
    obtain ⟨hRE0, hRE1, hRE2⟩ := hRE
    have hREc : ∀ ix, ix < 6 → _ := fun ix hi => oHR_c hR (ex := eN) (ix := ix) (by omega) hi
    have hREb : ∀ jx, 1 ≤ jx → jx ≤ nBr A eN → _ := fun jx j1 j2 => oHR_b hR (ex := eN) (jx := jx) (by omega) j1 j2
    refine r_il2 (q := 9) C dX8_isBar_8 rfl ?_
    refine r_iconst (q := 10) C dX8_isBar_9 rfl ?_
    refine r_al0 (q := 11) C dX8_isBar_10 rfl ?_
    refine r_getR (q := 14) C f_X8_10 dX8_isBar_11 rfl rfl (by assumption) (by assumption) (by omega) ?_
    refine r_getR (q := 17) C f_X8_107 dX8_isBar_14 rfl rfl (by assumption) (by assumption) (by omega) ?_
    refine r_il1 (q := 18) C dX8_isBar_17 rfl ?_
    refine r_aald (q := 19) C (eN) dX8_isBar_18 rfl (by assumption) (by omega) (by omega) (by omega) (by decide) hEj0 rfl rfl (by decide) (by decide) ?_
    refine r_getI (q := 22) C f_X8_111 dX8_isBar_19 rfl rfl (by assumption) (by omega) ?_
    rw [hRE2, hIE.2.1]
    refine r_callSb (q := 25) C (c_X8_within (hi := A (178 + 813 * eN)) hv (by omega) (by omega)) m_X8_68 dX8_isBar_22 rfl rfl (by decide) (by decide) (Nat.le_of_ble_eq_true rfl) (fun br22 => ?_) (fun br22 => ?_)
    · refine r_ifeq_f (q := 32) (q2 := 28) C (by decide) (by omega) dX8_isBar_25 (by decide) rfl ?_
      refine r_iconst (q := 29) C dX8_isBar_28 rfl ?_
      refine r_goto (q := 33) C dX8_isBar_29 (by decide) ?_
      exact r_zret C hr dX8_isBar_33 (by decide) (by decide) (by decide) ⟨Or.inl ⟨⟨br2, br22.1, by rw [Int.toNat_natCast]; exact br22.2⟩, rfl⟩, rfl, rfl⟩
    · refine r_ifeq_t (q := 32) C (by decide) (by omega) dX8_isBar_25 (by decide) ?_
      refine r_iconst (q := 33) C dX8_isBar_32 rfl ?_
      exact r_zret C hr dX8_isBar_33 (by decide) (by decide) (by decide) ⟨Or.inr ⟨fun hc => br22 ⟨hc.2.1, by have h := hc.2.2; rw [Int.toNat_natCast] at h; exact h⟩, rfl⟩, rfl, rfl⟩
  · refine r_ifeq_t (q := 32) C (by decide) (by omega) dX8_isBar_5 (by decide) ?_
    refine r_iconst (q := 33) C dX8_isBar_32 rfl ?_
    exact r_zret C hr dX8_isBar_33 (by decide) (by decide) (by decide) ⟨Or.inr ⟨fun hc => br2 hc.1, rfl⟩, rfl, rfl⟩
set_option maxRecDepth 20000 in
set_option maxHeartbeats 8000000 in
theorem c_X8_areOfOneWork {T : oT} {σ : oM} {xC : Nat} {A : Nat → Int} {Bd : Int} (hX : oX T xC) (hR : oHR σ (xC + 1) A) (hI : oI Bd A) {eN kN : Nat} (heN : eN < nEd A) (hkN : kN < nEd A) : MS yX8_areOfOneWork cX8_areOfOneWork 3 (some FieldType.boolean) 0 0 0 0 [og xC, oi ((eN : Nat) : Int), oi ((kN : Nat) : Int)] T σ (oPb (A (177 + 813 * eN) = A (177 + 813 * kN)) T σ) := by
  have hXc := hX
  obtain ⟨hX0, hXr0, hXr1, hXr2, hXr3, hXr4, hXr5, hXr6, hXn, hXs, hXy, hXq, hXk, hXb, hXbs, hXi, hXT⟩ := hXc
  have hHc := hXn
  obtain ⟨hH0, hH1, hH2, hH3, hH4, hH6, hG1, hG80, hG81, hG82, hG83, hEs, hLs, hHT⟩ := hHc
  have hRc := hR
  obtain ⟨hR0, hR5, hR7, hRw8, hRp, hRl, hRe⟩ := hRc
  have hIn := oI_n hI
  have hIc := hI
  obtain ⟨hI1, hI2, hI3, hI4, hI5, hI6, hI7, hI8, -⟩ := hIc
  refine o_met (by decide +kernel) (Nat.le_of_ble_eq_true rfl) (fun p l ee s m args below meth c G b C hr hn => ?_)
  have C : oCx p s m args meth c G b RX8 cX8_areOfOneWork 3 := C
  show oW p l ee ({ frames := 0, cells := 0, slots := 0, locals := 0 } : Room) s m args below meth c G b 3 0 0 (MQ below (o_Qc G b (oPb (A (177 + 813 * eN) = A (177 + 813 * kN)) T σ)) args s 0 0 (fun q => b ≤ q)) T σ 0 [some (og xC), some (oi ((eN : Nat) : Int)), some (oi ((kN : Nat) : Int))] []
  have hEj0 := (hEs eN (by omega)).1
  have hEd := (hEs eN (by omega)).2
  have hEj1 := hEd.1
  have hRE := oHR_e hR (ex := eN) (by omega)
  have hIE := oI_b hI (ex := eN) (by omega)
  obtain ⟨hRE0, hRE1, hRE2⟩ := hRE
  have hREc : ∀ ix, ix < 6 → _ := fun ix hi => oHR_c hR (ex := eN) (ix := ix) (by omega) hi
  have hREb : ∀ jx, 1 ≤ jx → jx ≤ nBr A eN → _ := fun jx j1 j2 => oHR_b hR (ex := eN) (jx := jx) (by omega) j1 j2
  have hEj0k := (hEs kN (by omega)).1
  have hEdk := (hEs kN (by omega)).2
  have hEj1k := hEdk.1
  have hIEk := oI_b hI (ex := kN) (by omega)
  have hREk := (hRe kN (by omega)).1
  have hw1 := hIE.1.1
  have hw2 := hIEk.1.1
  refine r_al0 (q := 1) C dX8_areOfOneWork_0 rfl ?_
  refine r_getR (q := 4) C f_X8_10 dX8_areOfOneWork_1 rfl rfl (by assumption) (by assumption) (by omega) ?_
  refine r_getR (q := 7) C f_X8_107 dX8_areOfOneWork_4 rfl rfl (by assumption) (by assumption) (by omega) ?_
  refine r_il1 (q := 8) C dX8_areOfOneWork_7 rfl ?_
  refine r_aald (q := 9) C (eN) dX8_areOfOneWork_8 rfl (by assumption) (by omega) (by omega) (by omega) (by decide) hEj0 rfl rfl (by decide) (by decide) ?_
  refine r_getI (q := 12) C f_X8_135 dX8_areOfOneWork_9 rfl rfl (by assumption) (by omega) ?_
  rw [hRE0]
  refine r_al0 (q := 13) C dX8_areOfOneWork_12 rfl ?_
  refine r_getR (q := 16) C f_X8_10 dX8_areOfOneWork_13 rfl rfl (by assumption) (by assumption) (by omega) ?_
  refine r_getR (q := 19) C f_X8_107 dX8_areOfOneWork_16 rfl rfl (by assumption) (by assumption) (by omega) ?_
  refine r_il2 (q := 20) C dX8_areOfOneWork_19 rfl ?_
  refine r_aald (q := 21) C (kN) dX8_areOfOneWork_20 rfl (by assumption) (by omega) (by omega) (by omega) (by decide) hEj0k rfl rfl (by decide) (by decide) ?_
  refine r_getI (q := 24) C f_X8_135 dX8_areOfOneWork_21 rfl rfl (by assumption) (by omega) ?_
  rw [hREk]
  refine r_icne (q := 31) (q2 := 27) C (by omega) (by omega) dX8_areOfOneWork_24 (by decide) rfl (fun br24 => ?_) (fun br24 => ?_)
  · refine r_iconst (q := 32) C dX8_areOfOneWork_31 rfl ?_
    exact r_zret C hr dX8_areOfOneWork_32 (by decide) (by decide) (by decide) ⟨Or.inr ⟨br24, rfl⟩, rfl, rfl⟩
  · refine r_iconst (q := 28) C dX8_areOfOneWork_27 rfl ?_
    refine r_goto (q := 32) C dX8_areOfOneWork_28 (by decide) ?_
    exact r_zret C hr dX8_areOfOneWork_32 (by decide) (by decide) (by decide) ⟨Or.inl ⟨br24, rfl⟩, rfl, rfl⟩
set_option maxRecDepth 20000 in
set_option maxHeartbeats 8000000 in
theorem c_X8_refuse {T : oT} {σ : oM} {xC : Nat} {z : Int} (hX : oX T xC) : MS yX8_refuse cX8_refuse 2 (some FieldType.int) 0 0 0 0 [og xC, oi z] T σ (oPs (fun zx σ2 => zx = -5 ∧ σ2 = o_up σ xC 10 z) T) := by
  have hXc := hX
  obtain ⟨hX0, hXr0, hXr1, hXr2, hXr3, hXr4, hXr5, hXr6, hXn, hXs, hXy, hXq, hXk, hXb, hXbs, hXi, hXT⟩ := hXc
  refine o_met (by decide +kernel) (Nat.le_of_ble_eq_true rfl) (fun p l ee s m args below meth c G b C hr hn => ?_)
  have C : oCx p s m args meth c G b RX8 cX8_refuse 2 := C
  show oW p l ee ({ frames := 0, cells := 0, slots := 0, locals := 0 } : Room) s m args below meth c G b 2 0 0 (MQ below (o_Qc G b (oPs (fun zx σ2 => zx = -5 ∧ σ2 = o_up σ xC 10 z) T)) args s 0 0 (fun q => b ≤ q)) T σ 0 [some (og xC), some (oi z)] []
  refine r_al0 (q := 1) C dX8_refuse_0 rfl ?_
  refine r_il1 (q := 2) C dX8_refuse_1 rfl ?_
  refine r_putI (q := 5) C fp_X8_65 dX8_refuse_2 rfl rfl (by assumption) (by omega) ?_
  refine r_bipush (q := 7) C dX8_refuse_5 (by decide) rfl ?_
  exact r_iret C hr dX8_refuse_7 (by decide) (by decide) ⟨_, rfl, rfl, rfl, rfl⟩
set_option maxRecDepth 20000 in
set_option maxHeartbeats 8000000 in
theorem c_X8_stock {T : oT} {σ : oM} {xC : Nat} {A : Nat → Int} {Bd : Int} (hX : oX T xC) (hR : oHR σ (xC + 1) A) (hI : oI Bd A) {z v w : Int} (hz : o_r z) (hv : o_r v) (hw : o_r w) : MS yX8_stock cX8_stock 4 (some FieldType.int) 2 0 0 43 [og xC, oi z, oi v, oi w] T σ (oP1 (oi (fStock A z v w)) T σ) := by
  have hXc := hX
  obtain ⟨hX0, hXr0, hXr1, hXr2, hXr3, hXr4, hXr5, hXr6, hXn, hXs, hXy, hXq, hXk, hXb, hXbs, hXi, hXT⟩ := hXc
  have hHc := hXn
  obtain ⟨hH0, hH1, hH2, hH3, hH4, hH6, hG1, hG80, hG81, hG82, hG83, hEs, hLs, hHT⟩ := hHc
  have hRc := hR
  obtain ⟨hR0, hR5, hR7, hRw8, hRp, hRl, hRe⟩ := hRc
  have hIn := oI_n hI
  have hIc := hI
  obtain ⟨hI1, hI2, hI3, hI4, hI5, hI6, hI7, hI8, -⟩ := hIc
  refine o_met (by decide +kernel) (Nat.le_of_ble_eq_true rfl) (fun p l ee s m args below meth c G b C hr hn => ?_)
  have C : oCx p s m args meth c G b RX8 cX8_stock 4 := C
  show oW p l ee ({ frames := 2, cells := 0, slots := 0, locals := 43 } : Room) s m args below meth c G b 4 0 0 (MQ below (o_Qc G b (oP1 (oi (fStock A z v w)) T σ)) args s 0 0 (fun q => b ≤ q)) T σ 0 [some (og xC), some (oi z), some (oi v), some (oi w)] []
  refine r_al0 (q := 1) C dX8_stock_0 rfl ?_
  refine r_il1 (q := 2) C dX8_stock_1 rfl ?_
  refine r_callVb (q := 5) C (c_X8_isEdition hX hR hI (by omega)) m_X8_87 (by assumption) (by omega) dX8_stock_2 rfl rfl (by decide) (by decide) (Nat.le_of_ble_eq_true rfl) (fun br2 => ?_) (fun br2 => ?_)
  · refine r_ifeq_f (q := 15) (q2 := 8) C (by decide) (by omega) dX8_stock_5 (by decide) rfl ?_
    refine r_il2 (q := 9) C dX8_stock_8 rfl ?_
    refine r_callSb (q := 12) C (c_X8_isInstrument (by omega)) m_X8_238 dX8_stock_9 rfl rfl (by decide) (by decide) (Nat.le_of_ble_eq_true rfl) (fun br9 => ?_) (fun br9 => ?_)
    · refine r_ifne_t (q := 17) C (by decide) (by omega) dX8_stock_12 (by decide) ?_
      refine r_il3 (q := 18) C dX8_stock_17 rfl ?_
      refine r_iconst (q := 19) C dX8_stock_18 rfl ?_
      refine r_iconst (q := 20) C dX8_stock_19 rfl ?_
      refine r_callSb (q := 23) C (c_X8_within hw (by omega) (by omega)) m_X8_68 dX8_stock_20 rfl rfl (by decide) (by decide) (Nat.le_of_ble_eq_true rfl) (fun br20 => ?_) (fun br20 => ?_)
      · refine r_ifeq_f (q := 43) (q2 := 26) C (by decide) (by omega) dX8_stock_23 (by decide) rfl ?_
        obtain ⟨eN, rfl, heN, heN6⟩ := isEd_n hI br2
        have hEj0 := (hEs eN (by omega)).1
        have hEd := (hEs eN (by omega)).2
        have hEj1 := hEd.1
        have hRE := oHR_e hR (ex := eN) (by omega)
        have hIE := oI_b hI (ex := eN) (by omega)
        obtain ⟨hRE0, hRE1, hRE2⟩ := hRE
        have hREc : ∀ ix, ix < 6 → _ := fun ix hi => oHR_c hR (ex := eN) (ix := ix) (by omega) hi
        have hREb : ∀ jx, 1 ≤ jx → jx ≤ nBr A eN → _ := fun jx j1 j2 => oHR_b hR (ex := eN) (jx := jx) (by omega) j1 j2
        obtain ⟨iN, rfl⟩ : ∃ iN : Nat, v = (iN : Int) := ⟨v.toNat, by omega⟩
        obtain ⟨hc1, hc2, hc3⟩ := hREc iN (by omega)
        refine r_al0 (q := 27) C dX8_stock_26 rfl ?_
        refine r_getR (q := 30) C f_X8_10 dX8_stock_27 rfl rfl (by assumption) (by assumption) (by omega) ?_
        refine r_getR (q := 33) C f_X8_107 dX8_stock_30 rfl rfl (by assumption) (by assumption) (by omega) ?_
        refine r_il1 (q := 34) C dX8_stock_33 rfl ?_
        refine r_aald (q := 35) C (eN) dX8_stock_34 rfl (by assumption) (by omega) (by omega) (by omega) (by decide) hEj0 rfl rfl (by decide) (by decide) ?_
        refine r_il2 (q := 36) C dX8_stock_35 rfl ?_
        refine r_il3 (q := 37) C dX8_stock_36 rfl ?_
        refine r_callV1 (q := 40) C (c_X4_copies (ix := iN) hEd (by omega) hw) m_X8_247 (by assumption) (by omega) dX8_stock_37 rfl rfl (by decide) (by decide) (Nat.le_of_ble_eq_true rfl) ?_
        refine r_goto (q := 44) C dX8_stock_40 (by decide) ?_
        rw [hc1, hc2, hc3]
        refine r_iret C hr dX8_stock_44 (by decide) (by decide) ?_
        refine ⟨?_, rfl, rfl⟩
        rw [fStock_y br2 (by omega)]
        rcases (show w = 0 ∨ w = 1 ∨ w = 2 ∨ w = 3 by omega) with rfl | rfl | rfl | rfl
        · refine congrArg (fun q => some (oi q)) ?_
          show _ + _ + _ = _
          omega
        · rfl
        · rfl
        · rfl
      · refine r_ifeq_t (q := 43) C (by decide) (by omega) dX8_stock_23 (by decide) ?_
        refine r_iconst (q := 44) C dX8_stock_43 rfl ?_
        exact r_iret C hr dX8_stock_44 (by decide) (by decide) ⟨by rw [fStock, if_pos ⟨br2, br9⟩, if_neg (by omega), if_neg (by omega), if_neg (by omega), if_neg (by omega)], rfl, rfl⟩
    · refine r_ifne_f (q := 17) (q2 := 15) C (by decide) (by omega) dX8_stock_12 (by decide) rfl ?_
      refine r_iconst (q := 16) C dX8_stock_15 rfl ?_
      exact r_iret C hr dX8_stock_16 (by decide) (by decide) ⟨by rw [fStock, if_neg (fun hc => br9 hc.2)], rfl, rfl⟩
  · refine r_ifeq_t (q := 15) C (by decide) (by omega) dX8_stock_5 (by decide) ?_
    refine r_iconst (q := 16) C dX8_stock_15 rfl ?_
    exact r_iret C hr dX8_stock_16 (by decide) (by decide) ⟨by rw [fStock, if_neg (fun hc => br2 hc.1)], rfl, rfl⟩
set_option maxRecDepth 20000 in
set_option maxHeartbeats 8000000 in
theorem c_X8_bowing {T : oT} {σ : oM} {xC : Nat} {A : Nat → Int} {Bd : Int} (hX : oX T xC) (hR : oHR σ (xC + 1) A) (hI : oI Bd A) {z v w : Int} (hz : o_r z) (hv : o_r v) (hw : o_r w) : MS yX8_bowing cX8_bowing 4 (some FieldType.int) 3 0 0 65 [og xC, oi z, oi v, oi w] T σ (oP1 (oi (fBowing A z v w)) T σ) := by
  have hXc := hX
  obtain ⟨hX0, hXr0, hXr1, hXr2, hXr3, hXr4, hXr5, hXr6, hXn, hXs, hXy, hXq, hXk, hXb, hXbs, hXi, hXT⟩ := hXc
  have hHc := hXn
  obtain ⟨hH0, hH1, hH2, hH3, hH4, hH6, hG1, hG80, hG81, hG82, hG83, hEs, hLs, hHT⟩ := hHc
  have hRc := hR
  obtain ⟨hR0, hR5, hR7, hRw8, hRp, hRl, hRe⟩ := hRc
  have hIn := oI_n hI
  have hIc := hI
  obtain ⟨hI1, hI2, hI3, hI4, hI5, hI6, hI7, hI8, -⟩ := hIc
  refine o_met (by decide +kernel) (Nat.le_of_ble_eq_true rfl) (fun p l ee s m args below meth c G b C hr hn => ?_)
  have C : oCx p s m args meth c G b RX8 cX8_bowing 4 := C
  show oW p l ee ({ frames := 3, cells := 0, slots := 0, locals := 65 } : Room) s m args below meth c G b 4 0 0 (MQ below (o_Qc G b (oP1 (oi (fBowing A z v w)) T σ)) args s 0 0 (fun q => b ≤ q)) T σ 0 [some (og xC), some (oi z), some (oi v), some (oi w)] []
  refine r_al0 (q := 1) C dX8_bowing_0 rfl ?_
  refine r_il1 (q := 2) C dX8_bowing_1 rfl ?_
  refine r_il3 (q := 3) C dX8_bowing_2 rfl ?_
  refine r_callVb (q := 6) C (c_X8_isBar hX hR hI (by omega) (by omega)) m_X8_103 (by assumption) (by omega) dX8_bowing_3 rfl rfl (by decide) (by decide) (Nat.le_of_ble_eq_true rfl) (fun br3 => ?_) (fun br3 => ?_)
  · refine r_ifeq_f (q := 16) (q2 := 9) C (by decide) (by omega) dX8_bowing_6 (by decide) rfl ?_
    refine r_il2 (q := 10) C dX8_bowing_9 rfl ?_
    refine r_callSb (q := 13) C (c_X8_isString (by omega)) m_X8_256 dX8_bowing_10 rfl rfl (by decide) (by decide) (Nat.le_of_ble_eq_true rfl) (fun br10 => ?_) (fun br10 => ?_)
    · refine r_ifne_t (q := 18) C (by decide) (by omega) dX8_bowing_13 (by decide) ?_
      have hbr3 := br3
      obtain ⟨eN, bN, rfl, rfl, heN, heN6, hbN1, hbN2, hbN9⟩ := isBr_n hI br3
      have hEj0 := (hEs eN (by omega)).1
      have hEd := (hEs eN (by omega)).2
      have hEj1 := hEd.1
      have hRE := oHR_e hR (ex := eN) (by omega)
      have hIE := oI_b hI (ex := eN) (by omega)
      obtain ⟨hRE0, hRE1, hRE2⟩ := hRE
      have hREc : ∀ ix, ix < 6 → _ := fun ix hi => oHR_c hR (ex := eN) (ix := ix) (by omega) hi
      have hREb : ∀ jx, 1 ≤ jx → jx ≤ nBr A eN → _ := fun jx j1 j2 => oHR_b hR (ex := eN) (jx := jx) (by omega) j1 j2
      have hEdc := hEd
      obtain ⟨hE0, hE3, hE4, hE5, hE6, hE7, hE8, hE9, hE10, hA1, hA2, hA3, hA4, hA5, hRw, hA10, hA11, hA12, hTe⟩ := hEdc
      obtain ⟨hb1, hb2, hb3, hb4, hb5⟩ := hREb bN hbN1 hbN2
      obtain ⟨iN, rfl⟩ : ∃ iN : Nat, v = (iN : Int) := ⟨v.toNat, by omega⟩
      have hrw := hRw iN (by omega)
      have hrw2 := hrw.2
      refine r_al0 (q := 19) C dX8_bowing_18 rfl ?_
      refine r_getR (q := 22) C f_X8_10 dX8_bowing_19 rfl rfl (by assumption) (by assumption) (by omega) ?_
      refine r_getR (q := 25) C f_X8_107 dX8_bowing_22 rfl rfl (by assumption) (by assumption) (by omega) ?_
      refine r_il1 (q := 26) C dX8_bowing_25 rfl ?_
      refine r_aald (q := 27) C (eN) dX8_bowing_26 rfl (by assumption) (by omega) (by omega) (by omega) (by decide) hEj0 rfl rfl (by decide) (by decide) ?_
      refine r_getR (q := 30) C f_X8_259 dX8_bowing_27 rfl rfl (by assumption) (by assumption) (by omega) ?_
      refine r_il2 (q := 31) C dX8_bowing_30 rfl ?_
      refine r_aald (q := 32) C (iN) dX8_bowing_31 rfl (by assumption) (by omega) (by omega) (by omega) (by decide) hrw.1 rfl rfl (by decide) (by decide) ?_
      refine r_il3 (q := 33) C dX8_bowing_32 rfl ?_
      refine r_iald (q := 34) C (bN) dX8_bowing_33 rfl (by assumption) (by omega) (by omega) (by omega) (by decide) ?_
      refine r_iret C hr dX8_bowing_34 (by decide) (by decide) ?_
      refine ⟨?_, rfl, rfl⟩
      rw [fBowing_y hbr3 (by omega), hb5 iN (by omega)]
    · refine r_ifne_f (q := 18) (q2 := 16) C (by decide) (by omega) dX8_bowing_13 (by decide) rfl ?_
      refine r_iconst (q := 17) C dX8_bowing_16 rfl ?_
      exact r_iret C hr dX8_bowing_17 (by decide) (by decide) ⟨by rw [fBowing, if_neg (fun hc => br10 hc.2)], rfl, rfl⟩
  · refine r_ifeq_t (q := 16) C (by decide) (by omega) dX8_bowing_6 (by decide) ?_
    refine r_iconst (q := 17) C dX8_bowing_16 rfl ?_
    exact r_iret C hr dX8_bowing_17 (by decide) (by decide) ⟨by rw [fBowing, if_neg (fun hc => br3 hc.1)], rfl, rfl⟩
set_option maxRecDepth 20000 in
set_option maxHeartbeats 8000000 in
theorem c_X8_bar {T : oT} {σ : oM} {xC : Nat} {A : Nat → Int} {Bd : Int} (hX : oX T xC) (hR : oHR σ (xC + 1) A) (hI : oI Bd A) {z v w : Int} (hz : o_r z) (hv : o_r v) (hw : o_r w) : MS yX8_bar cX8_bar 5 (some FieldType.int) 3 0 0 65 [og xC, oi z, oi v, oi w] T σ (oP1 (oi (fBar A z v w)) T σ) := by
  have hXc := hX
  obtain ⟨hX0, hXr0, hXr1, hXr2, hXr3, hXr4, hXr5, hXr6, hXn, hXs, hXy, hXq, hXk, hXb, hXbs, hXi, hXT⟩ := hXc
  have hHc := hXn
  obtain ⟨hH0, hH1, hH2, hH3, hH4, hH6, hG1, hG80, hG81, hG82, hG83, hEs, hLs, hHT⟩ := hHc
  have hRc := hR
  obtain ⟨hR0, hR5, hR7, hRw8, hRp, hRl, hRe⟩ := hRc
  have hIn := oI_n hI
  have hIc := hI
  obtain ⟨hI1, hI2, hI3, hI4, hI5, hI6, hI7, hI8, -⟩ := hIc
  refine o_met (by decide +kernel) (Nat.le_of_ble_eq_true rfl) (fun p l ee s m args below meth c G b C hr hn => ?_)
  have C : oCx p s m args meth c G b RX8 cX8_bar 5 := C
  show oW p l ee ({ frames := 3, cells := 0, slots := 0, locals := 65 } : Room) s m args below meth c G b 5 0 0 (MQ below (o_Qc G b (oP1 (oi (fBar A z v w)) T σ)) args s 0 0 (fun q => b ≤ q)) T σ 0 [some (og xC), some (oi z), some (oi v), some (oi w), none] []
  refine r_al0 (q := 1) C dX8_bar_0 rfl ?_
  refine r_il1 (q := 2) C dX8_bar_1 rfl ?_
  refine r_il2 (q := 3) C dX8_bar_2 rfl ?_
  refine r_callVb (q := 6) C (c_X8_isBar hX hR hI (by omega) (by omega)) m_X8_103 (by assumption) (by omega) dX8_bar_3 rfl rfl (by decide) (by decide) (Nat.le_of_ble_eq_true rfl) (fun br3 => ?_) (fun br3 => ?_)
  · refine r_ifne_t (q := 11) C (by decide) (by omega) dX8_bar_6 (by decide) ?_
    have hbr3 := br3
    obtain ⟨eN, bN, rfl, rfl, heN, heN6, hbN1, hbN2, hbN9⟩ := isBr_n hI br3
    have hEj0 := (hEs eN (by omega)).1
    have hEd := (hEs eN (by omega)).2
    have hEj1 := hEd.1
    have hRE := oHR_e hR (ex := eN) (by omega)
    have hIE := oI_b hI (ex := eN) (by omega)
    obtain ⟨hRE0, hRE1, hRE2⟩ := hRE
    have hREc : ∀ ix, ix < 6 → _ := fun ix hi => oHR_c hR (ex := eN) (ix := ix) (by omega) hi
    have hREb : ∀ jx, 1 ≤ jx → jx ≤ nBr A eN → _ := fun jx j1 j2 => oHR_b hR (ex := eN) (jx := jx) (by omega) j1 j2
    have hEdc := hEd
    obtain ⟨hE0, hE3, hE4, hE5, hE6, hE7, hE8, hE9, hE10, hA1, hA2, hA3, hA4, hA5, hRw, hA10, hA11, hA12, hTe⟩ := hEdc
    obtain ⟨hb1, hb2, hb3, hb4, hb5⟩ := hREb bN hbN1 hbN2
    have htm : ∀ j, 1 ≤ j → j ≤ bN → σ (xC + 1 + 2 + 13 * eN + 4) j = A (193 + 813 * eN + 8 * j) := fun j h1 h2 => by
      exact (hREb j h1 (by omega)).2.2.2.1
    have htr : ∀ j, 1 ≤ j → j ≤ bN → o_r (σ (xC + 1 + 2 + 13 * eN + 4) j) := fun j h1 h2 => by
      rw [htm j h1 h2]
      have := (hIE.1.2.2.2.2 j h1 (by omega)).2.2.2.1
      omega
    refine r_al0 (q := 12) C dX8_bar_11 rfl ?_
    refine r_getR (q := 15) C f_X8_10 dX8_bar_12 rfl rfl (by assumption) (by assumption) (by omega) ?_
    refine r_getR (q := 18) C f_X8_107 dX8_bar_15 rfl rfl (by assumption) (by assumption) (by omega) ?_
    refine r_il1 (q := 19) C dX8_bar_18 rfl ?_
    refine r_aald (q := 20) C (eN) dX8_bar_19 rfl (by assumption) (by omega) (by omega) (by omega) (by decide) hEj0 rfl rfl (by decide) (by decide) ?_
    refine r_as4 (q := 22) C dX8_bar_20 rfl (by decide) ?_
    refine r_il3 (q := 23) C dX8_bar_22 rfl ?_
    rcases (show w = 0 ∨ w = 1 ∨ w = 2 ∨ w = 3 ∨ w = 4 ∨ (w < 0 ∨ 4 < w) by omega) with hw1 | hw1 | hw1 | hw1 | hw1 | hw1
    ·
      refine r_tsin (q := 56) (j := 0) C dX8_bar_23 (by omega) (by omega) (by decide) rfl (by decide) ?_
      refine r_al4 (q := 58) C dX8_bar_56 rfl ?_
      refine r_getR (q := 61) C f_X8_170 dX8_bar_58 rfl rfl (by assumption) (by assumption) (by omega) ?_
      refine r_il2 (q := 62) C dX8_bar_61 rfl ?_
      refine r_iald (q := 63) C (bN) dX8_bar_62 rfl (by assumption) (by omega) (by omega) (by omega) (by decide) ?_
      refine r_iret C hr dX8_bar_63 (by decide) (by decide) ?_
      refine ⟨?_, rfl, rfl⟩
      rw [fBar_y hbr3, if_pos hw1, hb1]
    ·
      refine r_tsin (q := 64) (j := 1) C dX8_bar_23 (by omega) (by omega) (by decide) rfl (by decide) ?_
      refine r_al4 (q := 66) C dX8_bar_64 rfl ?_
      refine r_getR (q := 69) C f_X8_148 dX8_bar_66 rfl rfl (by assumption) (by assumption) (by omega) ?_
      refine r_il2 (q := 70) C dX8_bar_69 rfl ?_
      refine r_iald (q := 71) C (bN) dX8_bar_70 rfl (by assumption) (by omega) (by omega) (by omega) (by decide) ?_
      refine r_iret C hr dX8_bar_71 (by decide) (by decide) ?_
      refine ⟨?_, rfl, rfl⟩
      rw [fBar_y hbr3, if_neg (by omega), if_pos hw1, hb2]
    ·
      refine r_tsin (q := 72) (j := 2) C dX8_bar_23 (by omega) (by omega) (by decide) rfl (by decide) ?_
      refine r_al4 (q := 74) C dX8_bar_72 rfl ?_
      refine r_getR (q := 77) C f_X8_151 dX8_bar_74 rfl rfl (by assumption) (by assumption) (by omega) ?_
      refine r_il2 (q := 78) C dX8_bar_77 rfl ?_
      refine r_iald (q := 79) C (bN) dX8_bar_78 rfl (by assumption) (by omega) (by omega) (by omega) (by decide) ?_
      refine r_iret C hr dX8_bar_79 (by decide) (by decide) ?_
      refine ⟨?_, rfl, rfl⟩
      rw [fBar_y hbr3, if_neg (by omega), if_neg (by omega), if_pos hw1, hb3]
    ·
      refine r_tsin (q := 80) (j := 3) C dX8_bar_23 (by omega) (by omega) (by decide) rfl (by decide) ?_
      refine r_al4 (q := 82) C dX8_bar_80 rfl ?_
      refine r_il2 (q := 83) C dX8_bar_82 rfl ?_
      refine r_callV1 (q := 86) C (c_X4_ownTempo (fx := bN) hEd (by omega) (htr bN (by omega) (by omega))) m_X8_173 (by assumption) (by omega) dX8_bar_83 rfl rfl (by decide) (by decide) (Nat.le_of_ble_eq_true rfl) ?_
      refine r_iret C hr dX8_bar_86 (by decide) (by decide) ?_
      refine ⟨?_, rfl, rfl⟩
      have hs := fBar_y (w := w) hbr3
      rw [if_neg (by omega), if_neg (by omega), if_neg (by omega), if_pos hw1] at hs
      rw [hs, htm bN (by omega) (by omega)]
    ·
      refine r_tsin (q := 87) (j := 4) C dX8_bar_23 (by omega) (by omega) (by decide) rfl (by decide) ?_
      refine r_al4 (q := 89) C dX8_bar_87 rfl ?_
      refine r_il2 (q := 90) C dX8_bar_89 rfl ?_
      refine r_callV1 (q := 93) C (c_X4_countingTempo (fx := bN) hEd (by omega) htr) m_X8_176 (by assumption) (by omega) dX8_bar_90 rfl rfl (by decide) (by decide) (Nat.le_of_ble_eq_true rfl) ?_
      refine r_iret C hr dX8_bar_93 (by decide) (by decide) ?_
      refine ⟨?_, rfl, rfl⟩
      rw [fBar_y hbr3, if_neg (by omega), if_neg (by omega), if_neg (by omega), if_neg (by omega), if_pos hw1, cTempo_congr (g := fun j => A (193 + 813 * eN + 8 * j)) (fun j h1 h2 => htm j h1 h2)]
    ·
      refine r_tsout (q := 94) C dX8_bar_23 (by omega) (by omega) (by decide) ?_
      refine r_iconst (q := 95) C dX8_bar_94 rfl ?_
      refine r_iret C hr dX8_bar_95 (by decide) (by decide) ?_
      refine ⟨?_, rfl, rfl⟩
      rw [fBar_y hbr3, if_neg (by omega), if_neg (by omega), if_neg (by omega), if_neg (by omega), if_neg (by omega)]
  · refine r_ifne_f (q := 11) (q2 := 9) C (by decide) (by omega) dX8_bar_6 (by decide) rfl ?_
    refine r_iconst (q := 10) C dX8_bar_9 rfl ?_
    exact r_iret C hr dX8_bar_10 (by decide) (by decide) ⟨by rw [fBar, if_neg br3], rfl, rfl⟩
