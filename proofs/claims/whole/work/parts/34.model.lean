/-! the reference: its shape; its questions -/
def oMm (T : oT) (mC : Nat) : Prop := T.2.1 mC = (9, 0) ∧ T.2.2 mC 0 = some (mC + 1) ∧ T.2.2 mC 1 = some (mC + 2) ∧ T.2.2 mC 2 = some (mC + 3) ∧ T.2.2 mC 3 = some (mC + 4) ∧ T.2.2 mC 8 = some (mC + 5) ∧ T.2.2 mC 9 = some (mC + 6) ∧ T.2.2 mC 10 = some (mC + 7) ∧ T.2.2 mC 11 = some (mC + 8) ∧ T.2.2 mC 13 = some (mC + 9) ∧ T.2.2 mC 14 = some (mC + 10) ∧ T.2.2 mC 15 = some (mC + 11) ∧ T.2.2 mC 16 = some (mC + 12) ∧ T.2.2 mC 17 = some (mC + 13) ∧ T.2.2 mC 18 = some (mC + 14) ∧ T.2.2 mC 19 = some (mC + 15) ∧ T.2.2 mC 20 = some (mC + 16) ∧ T.2.1 (mC + 1) = (10, 5055) ∧ T.2.1 (mC + 2) = (10, 5055) ∧ T.2.1 (mC + 3) = (10, 5055) ∧ T.2.1 (mC + 4) = (10, 40440) ∧ T.2.1 (mC + 5) = (10, 198) ∧ T.2.1 (mC + 6) = (10, 198) ∧ T.2.1 (mC + 7) = (10, 198) ∧ T.2.1 (mC + 8) = (10, 198) ∧ T.2.1 (mC + 9) = (10, 4) ∧ T.2.1 (mC + 10) = (10, 3) ∧ T.2.1 (mC + 11) = (10, 3) ∧ T.2.1 (mC + 12) = (10, 24) ∧ T.2.1 (mC + 13) = (10, 24) ∧ T.2.1 (mC + 14) = (10, 60) ∧ T.2.1 (mC + 15) = (10, 60) ∧ T.2.1 (mC + 16) = (10, 300) ∧ mC + 17 ≤ T.1
set_option maxRecDepth 20000 in
set_option maxHeartbeats 8000000 in
theorem c_X9_at {T : oT} {σ : oM} {z v : Int} : MS yX9_at cX9_at 2 (some FieldType.int) 0 0 0 0 [oi z, oi v] T σ (oP1 (oi (177 + 813 * z + v)) T σ) := by
  refine o_met (by decide +kernel) (Nat.le_of_ble_eq_true rfl) (fun p l ee s m args below meth c G b C hr hn => ?_)
  have C : oCx p s m args meth c G b RX9 cX9_at 2 := C
  show oW p l ee ({ frames := 0, cells := 0, slots := 0, locals := 0 } : Room) s m args below meth c G b 2 0 0 (MQ below (o_Qc G b (oP1 (oi (177 + 813 * z + v)) T σ)) args s 0 0 (fun q => b ≤ q)) T σ 0 [some (oi z), some (oi v)] []
  refine r_sipush (q := 3) C dX9_at_0 (by decide) rfl ?_
  refine r_sipush (q := 6) C dX9_at_3 (by decide) rfl ?_
  refine r_il0 (q := 7) C dX9_at_6 rfl ?_
  refine r_imul (q := 8) C dX9_at_7 rfl ?_
  refine r_iadd (q := 9) C dX9_at_8 rfl ?_
  refine r_il1 (q := 10) C dX9_at_9 rfl ?_
  refine r_iadd (q := 11) C dX9_at_10 rfl ?_
  exact r_iret C hr dX9_at_11 (by decide) (by decide) ⟨rfl, rfl, rfl⟩
set_option maxRecDepth 20000 in
set_option maxHeartbeats 8000000 in
theorem c_X9_placeOf {T : oT} {σ : oM} {z v : Int} : MS yX9_placeOf cX9_placeOf 2 (some FieldType.int) 1 0 0 21 [oi z, oi v] T σ (oP1 (oi (190 + 813 * z + 8 * v)) T σ) := by
  refine o_met (by decide +kernel) (Nat.le_of_ble_eq_true rfl) (fun p l ee s m args below meth c G b C hr hn => ?_)
  have C : oCx p s m args meth c G b RX9 cX9_placeOf 2 := C
  show oW p l ee ({ frames := 1, cells := 0, slots := 0, locals := 21 } : Room) s m args below meth c G b 2 0 0 (MQ below (o_Qc G b (oP1 (oi (190 + 813 * z + 8 * v)) T σ)) args s 0 0 (fun q => b ≤ q)) T σ 0 [some (oi z), some (oi v)] []
  refine r_il0 (q := 1) C dX9_placeOf_0 rfl ?_
  refine r_bipush (q := 3) C dX9_placeOf_1 (by decide) rfl ?_
  refine r_bipush (q := 5) C dX9_placeOf_3 (by decide) rfl ?_
  refine r_il1 (q := 6) C dX9_placeOf_5 rfl ?_
  refine r_iconst (q := 7) C dX9_placeOf_6 rfl ?_
  refine r_isub (q := 8) C dX9_placeOf_7 rfl ?_
  refine r_imul (q := 9) C dX9_placeOf_8 rfl ?_
  refine r_iadd (q := 10) C dX9_placeOf_9 rfl ?_
  refine r_callS1 (q := 13) C (c_X9_at) m_X9_105 dX9_placeOf_10 rfl rfl (by decide) (by decide) (Nat.le_of_ble_eq_true rfl) ?_
  refine r_iret C hr dX9_placeOf_13 (by decide) (by decide) ?_
  refine ⟨congrArg (fun q => some (oi q)) ?_, rfl, rfl⟩
  omega
set_option maxRecDepth 20000 in
set_option maxHeartbeats 8000000 in
theorem c_X9_loanAt {T : oT} {σ : oM} {z v : Int} : MS yX9_loanAt cX9_loanAt 2 (some FieldType.int) 0 0 0 0 [oi z, oi v] T σ (oP1 (oi (17 + 8 * z + v)) T σ) := by
  refine o_met (by decide +kernel) (Nat.le_of_ble_eq_true rfl) (fun p l ee s m args below meth c G b C hr hn => ?_)
  have C : oCx p s m args meth c G b RX9 cX9_loanAt 2 := C
  show oW p l ee ({ frames := 0, cells := 0, slots := 0, locals := 0 } : Room) s m args below meth c G b 2 0 0 (MQ below (o_Qc G b (oP1 (oi (17 + 8 * z + v)) T σ)) args s 0 0 (fun q => b ≤ q)) T σ 0 [some (oi z), some (oi v)] []
  refine r_bipush (q := 2) C dX9_loanAt_0 (by decide) rfl ?_
  refine r_bipush (q := 4) C dX9_loanAt_2 (by decide) rfl ?_
  refine r_il0 (q := 5) C dX9_loanAt_4 rfl ?_
  refine r_imul (q := 6) C dX9_loanAt_5 rfl ?_
  refine r_iadd (q := 7) C dX9_loanAt_6 rfl ?_
  refine r_il1 (q := 8) C dX9_loanAt_7 rfl ?_
  refine r_iadd (q := 9) C dX9_loanAt_8 rfl ?_
  exact r_iret C hr dX9_loanAt_9 (by decide) (by decide) ⟨rfl, rfl, rfl⟩
set_option maxRecDepth 20000 in
set_option maxHeartbeats 8000000 in
theorem c_X9_isInstrument {T : oT} {σ : oM} {z : Int} (hz : o_r z) : MS yX9_isInstrument cX9_isInstrument 1 (some FieldType.boolean) 1 0 0 22 [oi z] T σ (oPb (0 ≤ z ∧ z ≤ 5) T σ) := by
  refine o_met (by decide +kernel) (Nat.le_of_ble_eq_true rfl) (fun p l ee s m args below meth c G b C hr hn => ?_)
  have C : oCx p s m args meth c G b RX9 cX9_isInstrument 1 := C
  show oW p l ee ({ frames := 1, cells := 0, slots := 0, locals := 22 } : Room) s m args below meth c G b 1 0 0 (MQ below (o_Qc G b (oPb (0 ≤ z ∧ z ≤ 5) T σ)) args s 0 0 (fun q => b ≤ q)) T σ 0 [some (oi z)] []
  refine r_il0 (q := 1) C dX9_isInstrument_0 rfl ?_
  refine r_iconst (q := 2) C dX9_isInstrument_1 rfl ?_
  refine r_iconst (q := 3) C dX9_isInstrument_2 rfl ?_
  refine r_callSb (q := 6) C (c_X9_in hz (by omega) (by omega)) m_X9_108 dX9_isInstrument_3 rfl rfl (by decide) (by decide) (Nat.le_of_ble_eq_true rfl) (fun br3 => ?_) (fun br3 => ?_)
  · exact r_zret C hr dX9_isInstrument_6 (by decide) (by decide) (by decide) ⟨Or.inl ⟨br3, rfl⟩, rfl, rfl⟩
  · exact r_zret C hr dX9_isInstrument_6 (by decide) (by decide) (by decide) ⟨Or.inr ⟨br3, rfl⟩, rfl, rfl⟩
set_option maxRecDepth 20000 in
set_option maxHeartbeats 8000000 in
theorem c_X9_isBox {T : oT} {σ : oM} {z : Int} (hz : o_r z) : MS yX9_isBox cX9_isBox 1 (some FieldType.boolean) 1 0 0 22 [oi z] T σ (oPb (0 ≤ z ∧ z ≤ 2) T σ) := by
  refine o_met (by decide +kernel) (Nat.le_of_ble_eq_true rfl) (fun p l ee s m args below meth c G b C hr hn => ?_)
  have C : oCx p s m args meth c G b RX9 cX9_isBox 1 := C
  show oW p l ee ({ frames := 1, cells := 0, slots := 0, locals := 22 } : Room) s m args below meth c G b 1 0 0 (MQ below (o_Qc G b (oPb (0 ≤ z ∧ z ≤ 2) T σ)) args s 0 0 (fun q => b ≤ q)) T σ 0 [some (oi z)] []
  refine r_il0 (q := 1) C dX9_isBox_0 rfl ?_
  refine r_iconst (q := 2) C dX9_isBox_1 rfl ?_
  refine r_iconst (q := 3) C dX9_isBox_2 rfl ?_
  refine r_callSb (q := 6) C (c_X9_in hz (by omega) (by omega)) m_X9_108 dX9_isBox_3 rfl rfl (by decide) (by decide) (Nat.le_of_ble_eq_true rfl) (fun br3 => ?_) (fun br3 => ?_)
  · exact r_zret C hr dX9_isBox_6 (by decide) (by decide) (by decide) ⟨Or.inl ⟨br3, rfl⟩, rfl, rfl⟩
  · exact r_zret C hr dX9_isBox_6 (by decide) (by decide) (by decide) ⟨Or.inr ⟨br3, rfl⟩, rfl, rfl⟩
set_option maxRecDepth 20000 in
set_option maxHeartbeats 8000000 in
theorem c_X9_isEdition {T : oT} {σ : oM} {mC : Nat} (hM : oMm T mC) {Bd : Int} (hI : oI Bd (σ (mC + 1))) {z : Int} (hz : o_r z) : MS yX9_isEdition cX9_isEdition 2 (some FieldType.boolean) 1 0 0 22 [og mC, oi z] T σ (oPb (isEdF (σ (mC + 1)) z) T σ) := by
  have hMc := hM
  obtain ⟨hM0, hMr0, hMr1, hMr2, hMr3, hMr8, hMr9, hMr10, hMr11, hMr13, hMr14, hMr15, hMr16, hMr17, hMr18, hMr19, hMr20, hMk1, hMk2, hMk3, hMk4, hMk5, hMk6, hMk7, hMk8, hMk9, hMk10, hMk11, hMk12, hMk13, hMk14, hMk15, hMk16, hMT⟩ := hMc
  have hI0 := hI.2.1
  have hI1 := hI.2.2.1
  have hI2 := hI.2.2.2.1
  have hIn := oI_n hI
  have hIB := hI.1
  refine o_met (by decide +kernel) (Nat.le_of_ble_eq_true rfl) (fun p l ee s m args below meth c G b C hr hn => ?_)
  have C : oCx p s m args meth c G b RX9 cX9_isEdition 2 := C
  show oW p l ee ({ frames := 1, cells := 0, slots := 0, locals := 22 } : Room) s m args below meth c G b 2 0 0 (MQ below (o_Qc G b (oPb (isEdF (σ (mC + 1)) z) T σ)) args s 0 0 (fun q => b ≤ q)) T σ 0 [some (og mC), some (oi z)] []
  refine r_il1 (q := 1) C dX9_isEdition_0 rfl ?_
  refine r_iconst (q := 2) C dX9_isEdition_1 rfl ?_
  refine r_al0 (q := 3) C dX9_isEdition_2 rfl ?_
  refine r_getR (q := 6) C f_X9_9 dX9_isEdition_3 rfl rfl (by assumption) (by assumption) (by omega) ?_
  refine r_iconst (q := 7) C dX9_isEdition_6 rfl ?_
  refine r_iald (q := 8) C (0) dX9_isEdition_7 rfl (by assumption) (by omega) (by omega) (by omega) (by decide) ?_
  refine r_iconst (q := 9) C dX9_isEdition_8 rfl ?_
  refine r_isub (q := 10) C dX9_isEdition_9 rfl ?_
  refine r_callSb (q := 13) C (c_X9_in (hi := (σ (mC + 1)) 0 - 1) hz (by omega) (by omega)) m_X9_108 dX9_isEdition_10 rfl rfl (by decide) (by decide) (Nat.le_of_ble_eq_true rfl) (fun br10 => ?_) (fun br10 => ?_)
  · exact r_zret C hr dX9_isEdition_13 (by decide) (by decide) (by decide) ⟨Or.inl ⟨br10, rfl⟩, rfl, rfl⟩
  · exact r_zret C hr dX9_isEdition_13 (by decide) (by decide) (by decide) ⟨Or.inr ⟨br10, rfl⟩, rfl, rfl⟩
set_option maxRecDepth 20000 in
set_option maxHeartbeats 8000000 in
theorem c_X9_bars {T : oT} {σ : oM} {mC : Nat} (hM : oMm T mC) {eN : Nat} (heN : eN < 6) : MS yX9_bars cX9_bars 2 (some FieldType.int) 1 0 0 21 [og mC, oi ((eN : Nat) : Int)] T σ (oP1 (oi ((σ (mC + 1)) (178 + 813 * eN))) T σ) := by
  have hMc := hM
  obtain ⟨hM0, hMr0, hMr1, hMr2, hMr3, hMr8, hMr9, hMr10, hMr11, hMr13, hMr14, hMr15, hMr16, hMr17, hMr18, hMr19, hMr20, hMk1, hMk2, hMk3, hMk4, hMk5, hMk6, hMk7, hMk8, hMk9, hMk10, hMk11, hMk12, hMk13, hMk14, hMk15, hMk16, hMT⟩ := hMc
  refine o_met (by decide +kernel) (Nat.le_of_ble_eq_true rfl) (fun p l ee s m args below meth c G b C hr hn => ?_)
  have C : oCx p s m args meth c G b RX9 cX9_bars 2 := C
  show oW p l ee ({ frames := 1, cells := 0, slots := 0, locals := 21 } : Room) s m args below meth c G b 2 0 0 (MQ below (o_Qc G b (oP1 (oi ((σ (mC + 1)) (178 + 813 * eN))) T σ)) args s 0 0 (fun q => b ≤ q)) T σ 0 [some (og mC), some (oi ((eN : Nat) : Int))] []
  refine r_al0 (q := 1) C dX9_bars_0 rfl ?_
  refine r_getR (q := 4) C f_X9_9 dX9_bars_1 rfl rfl (by assumption) (by assumption) (by omega) ?_
  refine r_il1 (q := 5) C dX9_bars_4 rfl ?_
  refine r_iconst (q := 6) C dX9_bars_5 rfl ?_
  refine r_callS1 (q := 9) C (c_X9_at) m_X9_105 dX9_bars_6 rfl rfl (by decide) (by decide) (Nat.le_of_ble_eq_true rfl) ?_
  refine r_iald (q := 10) C ((178 + 813 * eN)) dX9_bars_9 rfl (by assumption) (by omega) (by omega) (by omega) (by decide) ?_
  exact r_iret C hr dX9_bars_10 (by decide) (by decide) ⟨rfl, rfl, rfl⟩
set_option maxRecDepth 20000 in
set_option maxHeartbeats 8000000 in
theorem c_X9_isBar {T : oT} {σ : oM} {mC : Nat} (hM : oMm T mC) {Bd : Int} (hI : oI Bd (σ (mC + 1))) {z v : Int} (hz : o_r z) (hv : o_r v) : MS yX9_isBar cX9_isBar 3 (some FieldType.boolean) 2 0 0 43 [og mC, oi z, oi v] T σ (oPb (isBrF (σ (mC + 1)) z v) T σ) := by
  have hMc := hM
  obtain ⟨hM0, hMr0, hMr1, hMr2, hMr3, hMr8, hMr9, hMr10, hMr11, hMr13, hMr14, hMr15, hMr16, hMr17, hMr18, hMr19, hMr20, hMk1, hMk2, hMk3, hMk4, hMk5, hMk6, hMk7, hMk8, hMk9, hMk10, hMk11, hMk12, hMk13, hMk14, hMk15, hMk16, hMT⟩ := hMc
  have hI0 := hI.2.1
  have hI1 := hI.2.2.1
  have hI2 := hI.2.2.2.1
  have hIn := oI_n hI
  have hIB := hI.1
  refine o_met (by decide +kernel) (Nat.le_of_ble_eq_true rfl) (fun p l ee s m args below meth c G b C hr hn => ?_)
  have C : oCx p s m args meth c G b RX9 cX9_isBar 3 := C
  show oW p l ee ({ frames := 2, cells := 0, slots := 0, locals := 43 } : Room) s m args below meth c G b 3 0 0 (MQ below (o_Qc G b (oPb (isBrF (σ (mC + 1)) z v) T σ)) args s 0 0 (fun q => b ≤ q)) T σ 0 [some (og mC), some (oi z), some (oi v)] []
  refine r_al0 (q := 1) C dX9_isBar_0 rfl ?_
  refine r_il1 (q := 2) C dX9_isBar_1 rfl ?_
  refine r_callVb (q := 5) C (c_X9_isEdition hM hI (by omega)) m_X9_112 (by assumption) (by omega) dX9_isBar_2 rfl rfl (by decide) (by decide) (Nat.le_of_ble_eq_true rfl) (fun br2 => ?_) (fun br2 => ?_)
  · refine r_ifeq_f (q := 25) (q2 := 8) C (by decide) (by omega) dX9_isBar_5 (by decide) rfl ?_
    obtain ⟨eN, rfl, heN, heN6⟩ := isEd_n hI br2
    have hIE := oI_b hI heN
    refine r_il2 (q := 9) C dX9_isBar_8 rfl ?_
    refine r_iconst (q := 10) C dX9_isBar_9 rfl ?_
    refine r_al0 (q := 11) C dX9_isBar_10 rfl ?_
    refine r_il1 (q := 12) C dX9_isBar_11 rfl ?_
    refine r_callV1 (q := 15) C (c_X9_bars hM (by omega)) m_X9_116 (by assumption) (by omega) dX9_isBar_12 rfl rfl (by decide) (by decide) (Nat.le_of_ble_eq_true rfl) ?_
    refine r_callSb (q := 18) C (c_X9_in (hi := (σ (mC + 1)) (178 + 813 * eN)) hv (by omega) (by omega)) m_X9_108 dX9_isBar_15 rfl rfl (by decide) (by decide) (Nat.le_of_ble_eq_true rfl) (fun br15 => ?_) (fun br15 => ?_)
    · refine r_ifeq_f (q := 25) (q2 := 21) C (by decide) (by omega) dX9_isBar_18 (by decide) rfl ?_
      refine r_iconst (q := 22) C dX9_isBar_21 rfl ?_
      refine r_goto (q := 26) C dX9_isBar_22 (by decide) ?_
      exact r_zret C hr dX9_isBar_26 (by decide) (by decide) (by decide) ⟨Or.inl ⟨⟨br2, br15.1, by rw [Int.toNat_natCast]; exact br15.2⟩, rfl⟩, rfl, rfl⟩
    · refine r_ifeq_t (q := 25) C (by decide) (by omega) dX9_isBar_18 (by decide) ?_
      refine r_iconst (q := 26) C dX9_isBar_25 rfl ?_
      exact r_zret C hr dX9_isBar_26 (by decide) (by decide) (by decide) ⟨Or.inr ⟨fun hc => br15 ⟨hc.2.1, by have h := hc.2.2; rw [Int.toNat_natCast] at h; exact h⟩, rfl⟩, rfl, rfl⟩
  · refine r_ifeq_t (q := 25) C (by decide) (by omega) dX9_isBar_5 (by decide) ?_
    refine r_iconst (q := 26) C dX9_isBar_25 rfl ?_
    exact r_zret C hr dX9_isBar_26 (by decide) (by decide) (by decide) ⟨Or.inr ⟨fun hc => br2 hc.1, rfl⟩, rfl, rfl⟩
set_option maxRecDepth 20000 in
set_option maxHeartbeats 8000000 in
theorem c_X9_bought {T : oT} {σ : oM} {mC : Nat} (hM : oMm T mC) {eN iN : Nat} (heN : eN < 6) (hiN : iN < 6) : MS yX9_bought cX9_bought 3 (some FieldType.int) 1 0 0 21 [og mC, oi ((eN : Nat) : Int), oi ((iN : Nat) : Int)] T σ (oP1 (oi ((σ (mC + 1)) (180 + 813 * eN + 3 * iN))) T σ) := by
  have hMc := hM
  obtain ⟨hM0, hMr0, hMr1, hMr2, hMr3, hMr8, hMr9, hMr10, hMr11, hMr13, hMr14, hMr15, hMr16, hMr17, hMr18, hMr19, hMr20, hMk1, hMk2, hMk3, hMk4, hMk5, hMk6, hMk7, hMk8, hMk9, hMk10, hMk11, hMk12, hMk13, hMk14, hMk15, hMk16, hMT⟩ := hMc
  refine o_met (by decide +kernel) (Nat.le_of_ble_eq_true rfl) (fun p l ee s m args below meth c G b C hr hn => ?_)
  have C : oCx p s m args meth c G b RX9 cX9_bought 3 := C
  show oW p l ee ({ frames := 1, cells := 0, slots := 0, locals := 21 } : Room) s m args below meth c G b 3 0 0 (MQ below (o_Qc G b (oP1 (oi ((σ (mC + 1)) (180 + 813 * eN + 3 * iN))) T σ)) args s 0 0 (fun q => b ≤ q)) T σ 0 [some (og mC), some (oi ((eN : Nat) : Int)), some (oi ((iN : Nat) : Int))] []
  refine r_al0 (q := 1) C dX9_bought_0 rfl ?_
  refine r_getR (q := 4) C f_X9_9 dX9_bought_1 rfl rfl (by assumption) (by assumption) (by omega) ?_
  refine r_il1 (q := 5) C dX9_bought_4 rfl ?_
  refine r_iconst (q := 6) C dX9_bought_5 rfl ?_
  refine r_iconst (q := 7) C dX9_bought_6 rfl ?_
  refine r_il2 (q := 8) C dX9_bought_7 rfl ?_
  refine r_imul (q := 9) C dX9_bought_8 rfl ?_
  refine r_iadd (q := 10) C dX9_bought_9 rfl ?_
  refine r_callS1 (q := 13) C (c_X9_at) m_X9_105 dX9_bought_10 rfl rfl (by decide) (by decide) (Nat.le_of_ble_eq_true rfl) ?_
  refine r_iald (q := 14) C ((180 + 813 * eN + 3 * iN)) dX9_bought_13 rfl (by assumption) (by omega) (by omega) (by omega) (by decide) ?_
  exact r_iret C hr dX9_bought_14 (by decide) (by decide) ⟨rfl, rfl, rfl⟩
set_option maxRecDepth 20000 in
set_option maxHeartbeats 8000000 in
theorem c_X9_outOf {T : oT} {σ : oM} {mC : Nat} (hM : oMm T mC) {eN iN : Nat} (heN : eN < 6) (hiN : iN < 6) : MS yX9_outOf cX9_outOf 3 (some FieldType.int) 1 0 0 21 [og mC, oi ((eN : Nat) : Int), oi ((iN : Nat) : Int)] T σ (oP1 (oi ((σ (mC + 1)) (181 + 813 * eN + 3 * iN))) T σ) := by
  have hMc := hM
  obtain ⟨hM0, hMr0, hMr1, hMr2, hMr3, hMr8, hMr9, hMr10, hMr11, hMr13, hMr14, hMr15, hMr16, hMr17, hMr18, hMr19, hMr20, hMk1, hMk2, hMk3, hMk4, hMk5, hMk6, hMk7, hMk8, hMk9, hMk10, hMk11, hMk12, hMk13, hMk14, hMk15, hMk16, hMT⟩ := hMc
  refine o_met (by decide +kernel) (Nat.le_of_ble_eq_true rfl) (fun p l ee s m args below meth c G b C hr hn => ?_)
  have C : oCx p s m args meth c G b RX9 cX9_outOf 3 := C
  show oW p l ee ({ frames := 1, cells := 0, slots := 0, locals := 21 } : Room) s m args below meth c G b 3 0 0 (MQ below (o_Qc G b (oP1 (oi ((σ (mC + 1)) (181 + 813 * eN + 3 * iN))) T σ)) args s 0 0 (fun q => b ≤ q)) T σ 0 [some (og mC), some (oi ((eN : Nat) : Int)), some (oi ((iN : Nat) : Int))] []
  refine r_al0 (q := 1) C dX9_outOf_0 rfl ?_
  refine r_getR (q := 4) C f_X9_9 dX9_outOf_1 rfl rfl (by assumption) (by assumption) (by omega) ?_
  refine r_il1 (q := 5) C dX9_outOf_4 rfl ?_
  refine r_iconst (q := 6) C dX9_outOf_5 rfl ?_
  refine r_iconst (q := 7) C dX9_outOf_6 rfl ?_
  refine r_il2 (q := 8) C dX9_outOf_7 rfl ?_
  refine r_imul (q := 9) C dX9_outOf_8 rfl ?_
  refine r_iadd (q := 10) C dX9_outOf_9 rfl ?_
  refine r_iconst (q := 11) C dX9_outOf_10 rfl ?_
  refine r_iadd (q := 12) C dX9_outOf_11 rfl ?_
  refine r_callS1 (q := 15) C (c_X9_at) m_X9_105 dX9_outOf_12 rfl rfl (by decide) (by decide) (Nat.le_of_ble_eq_true rfl) ?_
  refine r_iald (q := 16) C ((181 + 813 * eN + 3 * iN)) dX9_outOf_15 rfl (by assumption) (by omega) (by omega) (by omega) (by decide) ?_
  exact r_iret C hr dX9_outOf_16 (by decide) (by decide) ⟨rfl, rfl, rfl⟩
set_option maxRecDepth 20000 in
set_option maxHeartbeats 8000000 in
theorem c_X9_lostOf {T : oT} {σ : oM} {mC : Nat} (hM : oMm T mC) {eN iN : Nat} (heN : eN < 6) (hiN : iN < 6) : MS yX9_lostOf cX9_lostOf 3 (some FieldType.int) 1 0 0 21 [og mC, oi ((eN : Nat) : Int), oi ((iN : Nat) : Int)] T σ (oP1 (oi ((σ (mC + 1)) (182 + 813 * eN + 3 * iN))) T σ) := by
  have hMc := hM
  obtain ⟨hM0, hMr0, hMr1, hMr2, hMr3, hMr8, hMr9, hMr10, hMr11, hMr13, hMr14, hMr15, hMr16, hMr17, hMr18, hMr19, hMr20, hMk1, hMk2, hMk3, hMk4, hMk5, hMk6, hMk7, hMk8, hMk9, hMk10, hMk11, hMk12, hMk13, hMk14, hMk15, hMk16, hMT⟩ := hMc
  refine o_met (by decide +kernel) (Nat.le_of_ble_eq_true rfl) (fun p l ee s m args below meth c G b C hr hn => ?_)
  have C : oCx p s m args meth c G b RX9 cX9_lostOf 3 := C
  show oW p l ee ({ frames := 1, cells := 0, slots := 0, locals := 21 } : Room) s m args below meth c G b 3 0 0 (MQ below (o_Qc G b (oP1 (oi ((σ (mC + 1)) (182 + 813 * eN + 3 * iN))) T σ)) args s 0 0 (fun q => b ≤ q)) T σ 0 [some (og mC), some (oi ((eN : Nat) : Int)), some (oi ((iN : Nat) : Int))] []
  refine r_al0 (q := 1) C dX9_lostOf_0 rfl ?_
  refine r_getR (q := 4) C f_X9_9 dX9_lostOf_1 rfl rfl (by assumption) (by assumption) (by omega) ?_
  refine r_il1 (q := 5) C dX9_lostOf_4 rfl ?_
  refine r_iconst (q := 6) C dX9_lostOf_5 rfl ?_
  refine r_iconst (q := 7) C dX9_lostOf_6 rfl ?_
  refine r_il2 (q := 8) C dX9_lostOf_7 rfl ?_
  refine r_imul (q := 9) C dX9_lostOf_8 rfl ?_
  refine r_iadd (q := 10) C dX9_lostOf_9 rfl ?_
  refine r_iconst (q := 11) C dX9_lostOf_10 rfl ?_
  refine r_iadd (q := 12) C dX9_lostOf_11 rfl ?_
  refine r_callS1 (q := 15) C (c_X9_at) m_X9_105 dX9_lostOf_12 rfl rfl (by decide) (by decide) (Nat.le_of_ble_eq_true rfl) ?_
  refine r_iald (q := 16) C ((182 + 813 * eN + 3 * iN)) dX9_lostOf_15 rfl (by assumption) (by omega) (by omega) (by omega) (by decide) ?_
  exact r_iret C hr dX9_lostOf_16 (by decide) (by decide) ⟨rfl, rfl, rfl⟩
set_option maxRecDepth 20000 in
set_option maxHeartbeats 8000000 in
theorem c_X9_inOf {T : oT} {σ : oM} {mC : Nat} (hM : oMm T mC) {eN iN : Nat} (heN : eN < 6) (hiN : iN < 6) : MS yX9_inOf cX9_inOf 3 (some FieldType.int) 2 0 0 43 [og mC, oi ((eN : Nat) : Int), oi ((iN : Nat) : Int)] T σ (oP1 (oi (inF (σ (mC + 1)) eN iN)) T σ) := by
  have hMc := hM
  obtain ⟨hM0, hMr0, hMr1, hMr2, hMr3, hMr8, hMr9, hMr10, hMr11, hMr13, hMr14, hMr15, hMr16, hMr17, hMr18, hMr19, hMr20, hMk1, hMk2, hMk3, hMk4, hMk5, hMk6, hMk7, hMk8, hMk9, hMk10, hMk11, hMk12, hMk13, hMk14, hMk15, hMk16, hMT⟩ := hMc
  refine o_met (by decide +kernel) (Nat.le_of_ble_eq_true rfl) (fun p l ee s m args below meth c G b C hr hn => ?_)
  have C : oCx p s m args meth c G b RX9 cX9_inOf 3 := C
  show oW p l ee ({ frames := 2, cells := 0, slots := 0, locals := 43 } : Room) s m args below meth c G b 3 0 0 (MQ below (o_Qc G b (oP1 (oi (inF (σ (mC + 1)) eN iN)) T σ)) args s 0 0 (fun q => b ≤ q)) T σ 0 [some (og mC), some (oi ((eN : Nat) : Int)), some (oi ((iN : Nat) : Int))] []
  refine r_al0 (q := 1) C dX9_inOf_0 rfl ?_
  refine r_il1 (q := 2) C dX9_inOf_1 rfl ?_
  refine r_il2 (q := 3) C dX9_inOf_2 rfl ?_
  refine r_callV1 (q := 6) C (c_X9_bought hM (by omega) (by omega)) m_X9_120 (by assumption) (by omega) dX9_inOf_3 rfl rfl (by decide) (by decide) (Nat.le_of_ble_eq_true rfl) ?_
  refine r_al0 (q := 7) C dX9_inOf_6 rfl ?_
  refine r_il1 (q := 8) C dX9_inOf_7 rfl ?_
  refine r_il2 (q := 9) C dX9_inOf_8 rfl ?_
  refine r_callV1 (q := 12) C (c_X9_outOf hM (by omega) (by omega)) m_X9_123 (by assumption) (by omega) dX9_inOf_9 rfl rfl (by decide) (by decide) (Nat.le_of_ble_eq_true rfl) ?_
  refine r_isub (q := 13) C dX9_inOf_12 rfl ?_
  refine r_al0 (q := 14) C dX9_inOf_13 rfl ?_
  refine r_il1 (q := 15) C dX9_inOf_14 rfl ?_
  refine r_il2 (q := 16) C dX9_inOf_15 rfl ?_
  refine r_callV1 (q := 19) C (c_X9_lostOf hM (by omega) (by omega)) m_X9_126 (by assumption) (by omega) dX9_inOf_16 rfl rfl (by decide) (by decide) (Nat.le_of_ble_eq_true rfl) ?_
  refine r_isub (q := 20) C dX9_inOf_19 rfl ?_
  exact r_iret C hr dX9_inOf_20 (by decide) (by decide) ⟨rfl, rfl, rfl⟩
set_option maxRecDepth 20000 in
set_option maxHeartbeats 8000000 in
theorem c_X9_boughtAll {T : oT} {σ : oM} {mC : Nat} (hM : oMm T mC) {eN : Nat} (heN : eN < 6) : MS yX9_boughtAll cX9_boughtAll 4 (some FieldType.int) 2 0 0 43 [og mC, oi ((eN : Nat) : Int)] T σ (oP1 (oi (boughtF (σ (mC + 1)) eN)) T σ) := by
  have hMc := hM
  obtain ⟨hM0, hMr0, hMr1, hMr2, hMr3, hMr8, hMr9, hMr10, hMr11, hMr13, hMr14, hMr15, hMr16, hMr17, hMr18, hMr19, hMr20, hMk1, hMk2, hMk3, hMk4, hMk5, hMk6, hMk7, hMk8, hMk9, hMk10, hMk11, hMk12, hMk13, hMk14, hMk15, hMk16, hMT⟩ := hMc
  refine o_met (by decide +kernel) (Nat.le_of_ble_eq_true rfl) (fun p l ee s m args below meth c G b C hr hn => ?_)
  have C : oCx p s m args meth c G b RX9 cX9_boughtAll 4 := C
  show oW p l ee ({ frames := 2, cells := 0, slots := 0, locals := 43 } : Room) s m args below meth c G b 4 0 0 (MQ below (o_Qc G b (oP1 (oi (boughtF (σ (mC + 1)) eN)) T σ)) args s 0 0 (fun q => b ≤ q)) T σ 0 [some (og mC), some (oi ((eN : Nat) : Int)), none, none] []
  have lp : ∀ (n : Nat) (jx : Nat), 6 - jx < n → (jx ≤ 6) → oW p l ee ({ frames := 2, cells := 0, slots := 0, locals := 43 } : Room) s m args below meth c G b 4 0 0 (MQ below (o_Qc G b (oP1 (oi (boughtF (σ (mC + 1)) eN)) T σ)) args s 0 0 (fun q => b ≤ q)) T σ 4 [some (og mC), some (oi ((eN : Nat) : Int)), some (oi (sumF (fun ix => (σ (mC + 1)) (180 + 813 * eN + 3 * ix)) jx)), some (oi ((jx : Nat) : Int))] [] := by
    intro n
    induction n with
    | zero =>
      intro jx hms
      exact absurd hms (Nat.not_lt_zero _)
    | succ n ih =>
      intro jx hms h1
      refine r_il3 (q := 5) C dX9_boughtAll_4 rfl ?_
      refine r_bipush (q := 7) C dX9_boughtAll_5 (by decide) rfl ?_
      refine r_icge (q := 25) (q2 := 10) C (by omega) (by omega) dX9_boughtAll_7 (by decide) rfl (fun br7 => ?_) (fun br7 => ?_)
      · refine r_il2 (q := 26) C dX9_boughtAll_25 rfl ?_
        exact r_iret C hr dX9_boughtAll_26 (by decide) (by decide) ⟨by rw [show jx = 6 by omega]; rfl, rfl, rfl⟩
      · refine r_il2 (q := 11) C dX9_boughtAll_10 rfl ?_
        refine r_al0 (q := 12) C dX9_boughtAll_11 rfl ?_
        refine r_il1 (q := 13) C dX9_boughtAll_12 rfl ?_
        refine r_il3 (q := 14) C dX9_boughtAll_13 rfl ?_
        refine r_callV1 (q := 17) C (c_X9_bought hM (by omega) (by omega)) m_X9_120 (by assumption) (by omega) dX9_boughtAll_14 rfl rfl (by decide) (by decide) (Nat.le_of_ble_eq_true rfl) ?_
        refine r_iadd (q := 18) C dX9_boughtAll_17 rfl ?_
        refine r_is2 (q := 19) C dX9_boughtAll_18 rfl (by decide) ?_
        refine r_iinc3 (q := 22) C dX9_boughtAll_19 rfl (by decide) ?_
        refine r_goto (q := 4) C dX9_boughtAll_22 (by decide) ?_
        exact ih (jx + 1) (by omega) (by omega)
  refine r_iconst (q := 1) C dX9_boughtAll_0 rfl ?_
  refine r_is2 (q := 2) C dX9_boughtAll_1 rfl (by decide) ?_
  refine r_iconst (q := 3) C dX9_boughtAll_2 rfl ?_
  refine r_is3 (q := 4) C dX9_boughtAll_3 rfl (by decide) ?_
  exact lp _ 0 (Nat.lt_succ_self _) (by omega)
set_option maxRecDepth 20000 in
set_option maxHeartbeats 8000000 in
theorem c_X9_areOfOneWork {T : oT} {σ : oM} {mC : Nat} (hM : oMm T mC) {Bd : Int} (hI : oI Bd (σ (mC + 1))) {eN kN : Nat} (heN : eN < nEd (σ (mC + 1))) (hkN : kN < nEd (σ (mC + 1))) : MS yX9_areOfOneWork cX9_areOfOneWork 3 (some FieldType.boolean) 1 0 0 21 [og mC, oi ((eN : Nat) : Int), oi ((kN : Nat) : Int)] T σ (oPb ((σ (mC + 1)) (177 + 813 * eN) = (σ (mC + 1)) (177 + 813 * kN)) T σ) := by
  have hMc := hM
  obtain ⟨hM0, hMr0, hMr1, hMr2, hMr3, hMr8, hMr9, hMr10, hMr11, hMr13, hMr14, hMr15, hMr16, hMr17, hMr18, hMr19, hMr20, hMk1, hMk2, hMk3, hMk4, hMk5, hMk6, hMk7, hMk8, hMk9, hMk10, hMk11, hMk12, hMk13, hMk14, hMk15, hMk16, hMT⟩ := hMc
  have hI0 := hI.2.1
  have hI1 := hI.2.2.1
  have hI2 := hI.2.2.2.1
  have hIn := oI_n hI
  have hIB := hI.1
  refine o_met (by decide +kernel) (Nat.le_of_ble_eq_true rfl) (fun p l ee s m args below meth c G b C hr hn => ?_)
  have C : oCx p s m args meth c G b RX9 cX9_areOfOneWork 3 := C
  show oW p l ee ({ frames := 1, cells := 0, slots := 0, locals := 21 } : Room) s m args below meth c G b 3 0 0 (MQ below (o_Qc G b (oPb ((σ (mC + 1)) (177 + 813 * eN) = (σ (mC + 1)) (177 + 813 * kN)) T σ)) args s 0 0 (fun q => b ≤ q)) T σ 0 [some (og mC), some (oi ((eN : Nat) : Int)), some (oi ((kN : Nat) : Int))] []
  have hw1 := (oI_b hI heN).1.1
  have hw2 := (oI_b hI hkN).1.1
  refine r_al0 (q := 1) C dX9_areOfOneWork_0 rfl ?_
  refine r_getR (q := 4) C f_X9_9 dX9_areOfOneWork_1 rfl rfl (by assumption) (by assumption) (by omega) ?_
  refine r_il1 (q := 5) C dX9_areOfOneWork_4 rfl ?_
  refine r_iconst (q := 6) C dX9_areOfOneWork_5 rfl ?_
  refine r_callS1 (q := 9) C (c_X9_at) m_X9_105 dX9_areOfOneWork_6 rfl rfl (by decide) (by decide) (Nat.le_of_ble_eq_true rfl) ?_
  refine r_iald (q := 10) C ((177 + 813 * eN)) dX9_areOfOneWork_9 rfl (by assumption) (by omega) (by omega) (by omega) (by decide) ?_
  refine r_al0 (q := 11) C dX9_areOfOneWork_10 rfl ?_
  refine r_getR (q := 14) C f_X9_9 dX9_areOfOneWork_11 rfl rfl (by assumption) (by assumption) (by omega) ?_
  refine r_il2 (q := 15) C dX9_areOfOneWork_14 rfl ?_
  refine r_iconst (q := 16) C dX9_areOfOneWork_15 rfl ?_
  refine r_callS1 (q := 19) C (c_X9_at) m_X9_105 dX9_areOfOneWork_16 rfl rfl (by decide) (by decide) (Nat.le_of_ble_eq_true rfl) ?_
  refine r_iald (q := 20) C ((177 + 813 * kN)) dX9_areOfOneWork_19 rfl (by assumption) (by omega) (by omega) (by omega) (by decide) ?_
  refine r_icne (q := 27) (q2 := 23) C (by omega) (by omega) dX9_areOfOneWork_20 (by decide) rfl (fun br20 => ?_) (fun br20 => ?_)
  · refine r_iconst (q := 28) C dX9_areOfOneWork_27 rfl ?_
    exact r_zret C hr dX9_areOfOneWork_28 (by decide) (by decide) (by decide) ⟨Or.inr ⟨br20, rfl⟩, rfl, rfl⟩
  · refine r_iconst (q := 24) C dX9_areOfOneWork_23 rfl ?_
    refine r_goto (q := 28) C dX9_areOfOneWork_24 (by decide) ?_
    exact r_zret C hr dX9_areOfOneWork_28 (by decide) (by decide) (by decide) ⟨Or.inl ⟨br20, rfl⟩, rfl, rfl⟩
set_option maxRecDepth 20000 in
set_option maxHeartbeats 8000000 in
theorem c_X9_isSame {T : oT} {σ : oM} {mC : Nat} (hM : oMm T mC) {Bd : Int} (hI : oI Bd (σ (mC + 1))) {eN aN kN dN : Nat} (heN : eN < nEd (σ (mC + 1))) (haN : 1 ≤ aN ∧ aN ≤ nBr (σ (mC + 1)) eN) (hkN : kN < nEd (σ (mC + 1))) (hdN : 1 ≤ dN ∧ dN ≤ nBr (σ (mC + 1)) kN) : MS yX9_isSame cX9_isSame 5 (some FieldType.boolean) 2 0 0 42 [og mC, oi ((eN : Nat) : Int), oi ((aN : Nat) : Int), oi ((kN : Nat) : Int), oi ((dN : Nat) : Int)] T σ (oPb ((σ (mC + 1)) (191 + 813 * eN + 8 * aN) = (σ (mC + 1)) (191 + 813 * kN + 8 * dN)) T σ) := by
  have hMc := hM
  obtain ⟨hM0, hMr0, hMr1, hMr2, hMr3, hMr8, hMr9, hMr10, hMr11, hMr13, hMr14, hMr15, hMr16, hMr17, hMr18, hMr19, hMr20, hMk1, hMk2, hMk3, hMk4, hMk5, hMk6, hMk7, hMk8, hMk9, hMk10, hMk11, hMk12, hMk13, hMk14, hMk15, hMk16, hMT⟩ := hMc
  have hI0 := hI.2.1
  have hI1 := hI.2.2.1
  have hI2 := hI.2.2.2.1
  have hIn := oI_n hI
  have hIB := hI.1
  refine o_met (by decide +kernel) (Nat.le_of_ble_eq_true rfl) (fun p l ee s m args below meth c G b C hr hn => ?_)
  have C : oCx p s m args meth c G b RX9 cX9_isSame 5 := C
  show oW p l ee ({ frames := 2, cells := 0, slots := 0, locals := 42 } : Room) s m args below meth c G b 5 0 0 (MQ below (o_Qc G b (oPb ((σ (mC + 1)) (191 + 813 * eN + 8 * aN) = (σ (mC + 1)) (191 + 813 * kN + 8 * dN)) T σ)) args s 0 0 (fun q => b ≤ q)) T σ 0 [some (og mC), some (oi ((eN : Nat) : Int)), some (oi ((aN : Nat) : Int)), some (oi ((kN : Nat) : Int)), some (oi ((dN : Nat) : Int))] []
  have hw1 := ((oI_b hI heN).1.2.2.2.2 aN haN.1 haN.2).2.1
  have hw2 := ((oI_b hI hkN).1.2.2.2.2 dN hdN.1 hdN.2).2.1
  have hq1 := (oI_b hI heN).2.2.2
  have hq2 := (oI_b hI hkN).2.2.2
  refine r_al0 (q := 1) C dX9_isSame_0 rfl ?_
  refine r_getR (q := 4) C f_X9_9 dX9_isSame_1 rfl rfl (by assumption) (by assumption) (by omega) ?_
  refine r_il1 (q := 5) C dX9_isSame_4 rfl ?_
  refine r_il2 (q := 6) C dX9_isSame_5 rfl ?_
  refine r_callS1 (q := 9) C (c_X9_placeOf) m_X9_132 dX9_isSame_6 rfl rfl (by decide) (by decide) (Nat.le_of_ble_eq_true rfl) ?_
  refine r_iconst (q := 10) C dX9_isSame_9 rfl ?_
  refine r_iadd (q := 11) C dX9_isSame_10 rfl ?_
  refine r_iald (q := 12) C ((191 + 813 * eN + 8 * aN)) dX9_isSame_11 rfl (by assumption) (by omega) (by omega) (by omega) (by decide) ?_
  refine r_al0 (q := 13) C dX9_isSame_12 rfl ?_
  refine r_getR (q := 16) C f_X9_9 dX9_isSame_13 rfl rfl (by assumption) (by assumption) (by omega) ?_
  refine r_il3 (q := 17) C dX9_isSame_16 rfl ?_
  refine r_il4 (q := 19) C dX9_isSame_17 rfl ?_
  refine r_callS1 (q := 22) C (c_X9_placeOf) m_X9_132 dX9_isSame_19 rfl rfl (by decide) (by decide) (Nat.le_of_ble_eq_true rfl) ?_
  refine r_iconst (q := 23) C dX9_isSame_22 rfl ?_
  refine r_iadd (q := 24) C dX9_isSame_23 rfl ?_
  refine r_iald (q := 25) C ((191 + 813 * kN + 8 * dN)) dX9_isSame_24 rfl (by assumption) (by omega) (by omega) (by omega) (by decide) ?_
  refine r_icne (q := 32) (q2 := 28) C (by omega) (by omega) dX9_isSame_25 (by decide) rfl (fun br25 => ?_) (fun br25 => ?_)
  · refine r_iconst (q := 33) C dX9_isSame_32 rfl ?_
    exact r_zret C hr dX9_isSame_33 (by decide) (by decide) (by decide) ⟨Or.inr ⟨br25, rfl⟩, rfl, rfl⟩
  · refine r_iconst (q := 29) C dX9_isSame_28 rfl ?_
    refine r_goto (q := 33) C dX9_isSame_29 (by decide) ?_
    exact r_zret C hr dX9_isSame_33 (by decide) (by decide) (by decide) ⟨Or.inl ⟨br25, rfl⟩, rfl, rfl⟩
set_option maxRecDepth 20000 in
set_option maxHeartbeats 8000000 in
theorem c_X9_tempoAt {T : oT} {σ : oM} {mC : Nat} (hM : oMm T mC) {Bd : Int} (hI : oI Bd (σ (mC + 1))) {eN fx : Nat} (heN : eN < nEd (σ (mC + 1))) (hfx : fx ≤ nBr (σ (mC + 1)) eN) : MS yX9_tempoAt cX9_tempoAt 4 (some FieldType.int) 2 0 0 42 [og mC, oi ((eN : Nat) : Int), oi ((fx : Nat) : Int)] T σ (oP1 (oi (cTempo (fun j => (σ (mC + 1)) (193 + 813 * eN + 8 * j)) fx)) T σ) := by
  have hMc := hM
  obtain ⟨hM0, hMr0, hMr1, hMr2, hMr3, hMr8, hMr9, hMr10, hMr11, hMr13, hMr14, hMr15, hMr16, hMr17, hMr18, hMr19, hMr20, hMk1, hMk2, hMk3, hMk4, hMk5, hMk6, hMk7, hMk8, hMk9, hMk10, hMk11, hMk12, hMk13, hMk14, hMk15, hMk16, hMT⟩ := hMc
  have hI0 := hI.2.1
  have hI1 := hI.2.2.1
  have hI2 := hI.2.2.2.1
  have hIn := oI_n hI
  have hIB := hI.1
  have hIE := oI_b hI heN
  refine o_met (by decide +kernel) (Nat.le_of_ble_eq_true rfl) (fun p l ee s m args below meth c G b C hr hn => ?_)
  have C : oCx p s m args meth c G b RX9 cX9_tempoAt 4 := C
  show oW p l ee ({ frames := 2, cells := 0, slots := 0, locals := 42 } : Room) s m args below meth c G b 4 0 0 (MQ below (o_Qc G b (oP1 (oi (cTempo (fun j => (σ (mC + 1)) (193 + 813 * eN + 8 * j)) fx)) T σ)) args s 0 0 (fun q => b ≤ q)) T σ 0 [some (og mC), some (oi ((eN : Nat) : Int)), some (oi ((fx : Nat) : Int)), none] []
  have lp : ∀ (n : Nat) (jx : Nat), jx < n → (jx ≤ fx) → (cTempo (fun j => (σ (mC + 1)) (193 + 813 * eN + 8 * j)) fx = cTempo (fun j => (σ (mC + 1)) (193 + 813 * eN + 8 * j)) jx) → oW p l ee ({ frames := 2, cells := 0, slots := 0, locals := 42 } : Room) s m args below meth c G b 4 0 0 (MQ below (o_Qc G b (oP1 (oi (cTempo (fun j => (σ (mC + 1)) (193 + 813 * eN + 8 * j)) fx)) T σ)) args s 0 0 (fun q => b ≤ q)) T σ 2 [some (og mC), some (oi ((eN : Nat) : Int)), some (oi ((fx : Nat) : Int)), some (oi ((jx : Nat) : Int))] [] := by
    intro n
    induction n with
    | zero =>
      intro jx hms
      exact absurd hms (Nat.not_lt_zero _)
    | succ n ih =>
      intro jx hms h1 h2
      refine r_il3 (q := 3) C dX9_tempoAt_2 rfl ?_
      refine r_iconst (q := 4) C dX9_tempoAt_3 rfl ?_
      refine r_iclt (q := 41) (q2 := 7) C (by omega) (by omega) dX9_tempoAt_4 (by decide) rfl (fun br4 => ?_) (fun br4 => ?_)
      · refine r_sipush (q := 44) C dX9_tempoAt_41 (by decide) rfl ?_
        exact r_iret C hr dX9_tempoAt_44 (by decide) (by decide) ⟨by rw [h2, show jx = 0 by omega]; rfl, rfl, rfl⟩
      · obtain ⟨ix, rfl⟩ : ∃ ix, jx = ix + 1 := ⟨jx - 1, by omega⟩
        have hti := (hIE.1.2.2.2.2 (ix + 1) (by omega) (by omega)).2.2.2.1
        refine r_al0 (q := 8) C dX9_tempoAt_7 rfl ?_
        refine r_getR (q := 11) C f_X9_9 dX9_tempoAt_8 rfl rfl (by assumption) (by assumption) (by omega) ?_
        refine r_il1 (q := 12) C dX9_tempoAt_11 rfl ?_
        refine r_il3 (q := 13) C dX9_tempoAt_12 rfl ?_
        refine r_callS1 (q := 16) C (c_X9_placeOf) m_X9_132 dX9_tempoAt_13 rfl rfl (by decide) (by decide) (Nat.le_of_ble_eq_true rfl) ?_
        refine r_iconst (q := 17) C dX9_tempoAt_16 rfl ?_
        refine r_iadd (q := 18) C dX9_tempoAt_17 rfl ?_
        refine r_iald (q := 19) C ((193 + 813 * eN + 8 * (ix + 1))) dX9_tempoAt_18 rfl (by assumption) (by omega) (by omega) (by omega) (by decide) ?_
        refine r_ifle (q := 35) (q2 := 22) C (by omega) dX9_tempoAt_19 (by decide) rfl (fun br19 => ?_) (fun br19 => ?_)
        · refine r_iinc3 (q := 38) C dX9_tempoAt_35 rfl (by decide) ?_
          refine r_goto (q := 2) C dX9_tempoAt_38 (by decide) ?_
          rw [show ((ix + 1 : Nat) : Int) + (-1) = ((ix : Nat) : Int) by omega]
          exact ih ix (by omega) (by omega) (by rw [h2, cTempo, if_pos (by omega)])
        · refine r_al0 (q := 23) C dX9_tempoAt_22 rfl ?_
          refine r_getR (q := 26) C f_X9_9 dX9_tempoAt_23 rfl rfl (by assumption) (by assumption) (by omega) ?_
          refine r_il1 (q := 27) C dX9_tempoAt_26 rfl ?_
          refine r_il3 (q := 28) C dX9_tempoAt_27 rfl ?_
          refine r_callS1 (q := 31) C (c_X9_placeOf) m_X9_132 dX9_tempoAt_28 rfl rfl (by decide) (by decide) (Nat.le_of_ble_eq_true rfl) ?_
          refine r_iconst (q := 32) C dX9_tempoAt_31 rfl ?_
          refine r_iadd (q := 33) C dX9_tempoAt_32 rfl ?_
          refine r_iald (q := 34) C ((193 + 813 * eN + 8 * (ix + 1))) dX9_tempoAt_33 rfl (by assumption) (by omega) (by omega) (by omega) (by decide) ?_
          exact r_iret C hr dX9_tempoAt_34 (by decide) (by decide) ⟨by rw [h2, cTempo, if_neg (by omega)], rfl, rfl⟩
  refine r_il2 (q := 1) C dX9_tempoAt_0 rfl ?_
  refine r_is3 (q := 2) C dX9_tempoAt_1 rfl (by decide) ?_
  exact lp _ fx (Nat.lt_succ_self _) (Nat.le_refl _) rfl
/-- where bar bN of edition eN stands in edition kN; -7 if nowhere -/
def carF (A : Nat → Int) (eN bN kN : Nat) : Int := if fstAt (fun j => A (190 + 813 * kN + 8 * j)) (A (190 + 813 * eN + 8 * bN)) (nBr A kN) 1 = 0 then -7 else ((fstAt (fun j => A (190 + 813 * kN + 8 * j)) (A (190 + 813 * eN + 8 * bN)) (nBr A kN) 1 : Nat) : Int)
theorem carF_in {A : Nat → Int} {eN bN kN : Nat} : carF A eN bN kN = -7 ∨ ∃ tN : Nat, carF A eN bN kN = (tN : Int) ∧ 1 ≤ tN ∧ tN ≤ nBr A kN ∧ A (190 + 813 * kN + 8 * tN) = A (190 + 813 * eN + 8 * bN) := by
  unfold carF
  rcases fstAt_spec (f := fun j => A (190 + 813 * kN + 8 * j)) (v := A (190 + 813 * eN + 8 * bN)) (n := nBr A kN) (j := 1) (by omega) with ⟨h1, -⟩ | ⟨h1, h2, h3, -⟩
  · rw [if_pos h1]
    exact Or.inl rfl
  · rw [if_neg (by omega)]
    exact Or.inr ⟨_, rfl, h1, by omega, h3⟩
set_option maxRecDepth 20000 in
set_option maxHeartbeats 8000000 in
theorem c_X9_carried {T : oT} {σ : oM} {mC : Nat} (hM : oMm T mC) {Bd : Int} (hI : oI Bd (σ (mC + 1))) {eN bN kN : Nat} (heN : eN < nEd (σ (mC + 1))) (hbN : 1 ≤ bN ∧ bN ≤ nBr (σ (mC + 1)) eN) (hkN : kN < nEd (σ (mC + 1))) : MS yX9_carried cX9_carried 5 (some FieldType.int) 2 0 0 42 [og mC, oi ((eN : Nat) : Int), oi ((bN : Nat) : Int), oi ((kN : Nat) : Int)] T σ (oP1 (oi (carF (σ (mC + 1)) eN bN kN)) T σ) := by
  have hMc := hM
  obtain ⟨hM0, hMr0, hMr1, hMr2, hMr3, hMr8, hMr9, hMr10, hMr11, hMr13, hMr14, hMr15, hMr16, hMr17, hMr18, hMr19, hMr20, hMk1, hMk2, hMk3, hMk4, hMk5, hMk6, hMk7, hMk8, hMk9, hMk10, hMk11, hMk12, hMk13, hMk14, hMk15, hMk16, hMT⟩ := hMc
  have hI0 := hI.2.1
  have hI1 := hI.2.2.1
  have hI2 := hI.2.2.2.1
  have hIn := oI_n hI
  have hIB := hI.1
  have hIE := oI_b hI heN
  have hIK := oI_b hI hkN
  have hp := (hIE.1.2.2.2.2 bN hbN.1 hbN.2).1
  refine o_met (by decide +kernel) (Nat.le_of_ble_eq_true rfl) (fun p l ee s m args below meth c G b C hr hn => ?_)
  have C : oCx p s m args meth c G b RX9 cX9_carried 5 := C
  show oW p l ee ({ frames := 2, cells := 0, slots := 0, locals := 42 } : Room) s m args below meth c G b 5 0 0 (MQ below (o_Qc G b (oP1 (oi (carF (σ (mC + 1)) eN bN kN)) T σ)) args s 0 0 (fun q => b ≤ q)) T σ 0 [some (og mC), some (oi ((eN : Nat) : Int)), some (oi ((bN : Nat) : Int)), some (oi ((kN : Nat) : Int)), none] []
  have lp : ∀ (n : Nat) (jx : Nat), nBr (σ (mC + 1)) kN + 1 - jx < n → (1 ≤ jx ∧ jx ≤ nBr (σ (mC + 1)) kN + 1) → (fstAt (fun j => (σ (mC + 1)) (190 + 813 * kN + 8 * j)) ((σ (mC + 1)) (190 + 813 * eN + 8 * bN)) (nBr (σ (mC + 1)) kN) 1 = fstAt (fun j => (σ (mC + 1)) (190 + 813 * kN + 8 * j)) ((σ (mC + 1)) (190 + 813 * eN + 8 * bN)) (nBr (σ (mC + 1)) kN + 1 - jx) jx) → oW p l ee ({ frames := 2, cells := 0, slots := 0, locals := 42 } : Room) s m args below meth c G b 5 0 0 (MQ below (o_Qc G b (oP1 (oi (carF (σ (mC + 1)) eN bN kN)) T σ)) args s 0 0 (fun q => b ≤ q)) T σ 3 [some (og mC), some (oi ((eN : Nat) : Int)), some (oi ((bN : Nat) : Int)), some (oi ((kN : Nat) : Int)), some (oi ((jx : Nat) : Int))] [] := by
    intro n
    induction n with
    | zero =>
      intro jx hms
      exact absurd hms (Nat.not_lt_zero _)
    | succ n ih =>
      intro jx hms h1 h2
      refine r_il4 (q := 5) C dX9_carried_3 rfl ?_
      refine r_al0 (q := 6) C dX9_carried_5 rfl ?_
      refine r_il3 (q := 7) C dX9_carried_6 rfl ?_
      refine r_callV1 (q := 10) C (c_X9_bars hM (by omega)) m_X9_116 (by assumption) (by omega) dX9_carried_7 rfl rfl (by decide) (by decide) (Nat.le_of_ble_eq_true rfl) ?_
      rw [← hIK.2.1]
      refine r_icgt (q := 46) (q2 := 13) C (by omega) (by omega) dX9_carried_10 (by decide) rfl (fun br10 => ?_) (fun br10 => ?_)
      · refine r_bipush (q := 48) C dX9_carried_46 (by decide) rfl ?_
        exact r_iret C hr dX9_carried_48 (by decide) (by decide) ⟨by rw [carF, h2, show nBr (σ (mC + 1)) kN + 1 - jx = 0 by omega]; rfl, rfl, rfl⟩
      · have hq := (hIK.1.2.2.2.2 jx (by omega) (by omega)).1
        refine r_al0 (q := 14) C dX9_carried_13 rfl ?_
        refine r_getR (q := 17) C f_X9_9 dX9_carried_14 rfl rfl (by assumption) (by assumption) (by omega) ?_
        refine r_il3 (q := 18) C dX9_carried_17 rfl ?_
        refine r_il4 (q := 20) C dX9_carried_18 rfl ?_
        refine r_callS1 (q := 23) C (c_X9_placeOf) m_X9_132 dX9_carried_20 rfl rfl (by decide) (by decide) (Nat.le_of_ble_eq_true rfl) ?_
        refine r_iald (q := 24) C ((190 + 813 * kN + 8 * jx)) dX9_carried_23 rfl (by assumption) (by omega) (by omega) (by omega) (by decide) ?_
        refine r_al0 (q := 25) C dX9_carried_24 rfl ?_
        refine r_getR (q := 28) C f_X9_9 dX9_carried_25 rfl rfl (by assumption) (by assumption) (by omega) ?_
        refine r_il1 (q := 29) C dX9_carried_28 rfl ?_
        refine r_il2 (q := 30) C dX9_carried_29 rfl ?_
        refine r_callS1 (q := 33) C (c_X9_placeOf) m_X9_132 dX9_carried_30 rfl rfl (by decide) (by decide) (Nat.le_of_ble_eq_true rfl) ?_
        refine r_iald (q := 34) C ((190 + 813 * eN + 8 * bN)) dX9_carried_33 rfl (by assumption) (by omega) (by omega) (by omega) (by decide) ?_
        refine r_icne (q := 40) (q2 := 37) C (by omega) (by omega) dX9_carried_34 (by decide) rfl (fun br34 => ?_) (fun br34 => ?_)
        · refine r_iinc4 (q := 43) C dX9_carried_40 rfl (by decide) ?_
          refine r_goto (q := 3) C dX9_carried_43 (by decide) ?_
          exact ih (jx + 1) (by omega) (by omega) (by rw [h2, show nBr (σ (mC + 1)) kN + 1 - jx = (nBr (σ (mC + 1)) kN - jx) + 1 by omega, fstAt, if_neg br34, show nBr (σ (mC + 1)) kN + 1 - (jx + 1) = nBr (σ (mC + 1)) kN - jx by omega])
        · refine r_il4 (q := 39) C dX9_carried_37 rfl ?_
          exact r_iret C hr dX9_carried_39 (by decide) (by decide) ⟨by rw [carF, h2, show nBr (σ (mC + 1)) kN + 1 - jx = (nBr (σ (mC + 1)) kN - jx) + 1 by omega, fstAt, if_pos br34, if_neg (by omega)], rfl, rfl⟩
  refine r_iconst (q := 1) C dX9_carried_0 rfl ?_
  refine r_is4 (q := 3) C dX9_carried_1 rfl (by decide) ?_
  exact lp _ 1 (Nat.lt_succ_self _) (by omega) rfl
set_option maxRecDepth 20000 in
set_option maxHeartbeats 8000000 in
theorem c_X9_isOverdue {T : oT} {σ : oM} {mC : Nat} (hM : oMm T mC) {Bd : Int} (hI : oI Bd (σ (mC + 1))) {lN : Nat} (hlN : lN < nLn (σ (mC + 1))) : MS yX9_isOverdue cX9_isOverdue 2 (some FieldType.boolean) 1 0 0 21 [og mC, oi ((lN : Nat) : Int)] T σ (oPb (0 < (σ (mC + 1)) (21 + 8 * lN) ∧ (σ (mC + 1)) (22 + 8 * lN) < (σ (mC + 1)) 2) T σ) := by
  have hMc := hM
  obtain ⟨hM0, hMr0, hMr1, hMr2, hMr3, hMr8, hMr9, hMr10, hMr11, hMr13, hMr14, hMr15, hMr16, hMr17, hMr18, hMr19, hMr20, hMk1, hMk2, hMk3, hMk4, hMk5, hMk6, hMk7, hMk8, hMk9, hMk10, hMk11, hMk12, hMk13, hMk14, hMk15, hMk16, hMT⟩ := hMc
  have hI0 := hI.2.1
  have hI1 := hI.2.2.1
  have hI2 := hI.2.2.2.1
  have hIn := oI_n hI
  have hIB := hI.1
  refine o_met (by decide +kernel) (Nat.le_of_ble_eq_true rfl) (fun p l ee s m args below meth c G b C hr hn => ?_)
  have C : oCx p s m args meth c G b RX9 cX9_isOverdue 2 := C
  show oW p l ee ({ frames := 1, cells := 0, slots := 0, locals := 21 } : Room) s m args below meth c G b 2 0 0 (MQ below (o_Qc G b (oPb (0 < (σ (mC + 1)) (21 + 8 * lN) ∧ (σ (mC + 1)) (22 + 8 * lN) < (σ (mC + 1)) 2) T σ)) args s 0 0 (fun q => b ≤ q)) T σ 0 [some (og mC), some (oi ((lN : Nat) : Int))] []
  have hIl := hI.2.2.2.2.2.2.1 lN hlN
  refine r_al0 (q := 1) C dX9_isOverdue_0 rfl ?_
  refine r_getR (q := 4) C f_X9_9 dX9_isOverdue_1 rfl rfl (by assumption) (by assumption) (by omega) ?_
  refine r_il1 (q := 5) C dX9_isOverdue_4 rfl ?_
  refine r_iconst (q := 6) C dX9_isOverdue_5 rfl ?_
  refine r_callS1 (q := 9) C (c_X9_loanAt) m_X9_192 dX9_isOverdue_6 rfl rfl (by decide) (by decide) (Nat.le_of_ble_eq_true rfl) ?_
  refine r_iald (q := 10) C ((21 + 8 * lN)) dX9_isOverdue_9 rfl (by assumption) (by omega) (by omega) (by omega) (by decide) ?_
  refine r_ifle (q := 36) (q2 := 13) C (by omega) dX9_isOverdue_10 (by decide) rfl (fun br10 => ?_) (fun br10 => ?_)
  · refine r_iconst (q := 37) C dX9_isOverdue_36 rfl ?_
    exact r_zret C hr dX9_isOverdue_37 (by decide) (by decide) (by decide) ⟨Or.inr ⟨by omega, rfl⟩, rfl, rfl⟩
  · refine r_al0 (q := 14) C dX9_isOverdue_13 rfl ?_
    refine r_getR (q := 17) C f_X9_9 dX9_isOverdue_14 rfl rfl (by assumption) (by assumption) (by omega) ?_
    refine r_iconst (q := 18) C dX9_isOverdue_17 rfl ?_
    refine r_iald (q := 19) C (2) dX9_isOverdue_18 rfl (by assumption) (by omega) (by omega) (by omega) (by decide) ?_
    refine r_al0 (q := 20) C dX9_isOverdue_19 rfl ?_
    refine r_getR (q := 23) C f_X9_9 dX9_isOverdue_20 rfl rfl (by assumption) (by assumption) (by omega) ?_
    refine r_il1 (q := 24) C dX9_isOverdue_23 rfl ?_
    refine r_iconst (q := 25) C dX9_isOverdue_24 rfl ?_
    refine r_callS1 (q := 28) C (c_X9_loanAt) m_X9_192 dX9_isOverdue_25 rfl rfl (by decide) (by decide) (Nat.le_of_ble_eq_true rfl) ?_
    refine r_iald (q := 29) C ((22 + 8 * lN)) dX9_isOverdue_28 rfl (by assumption) (by omega) (by omega) (by omega) (by decide) ?_
    refine r_icle (q := 36) (q2 := 32) C (by omega) (by omega) dX9_isOverdue_29 (by decide) rfl (fun br29 => ?_) (fun br29 => ?_)
    · refine r_iconst (q := 37) C dX9_isOverdue_36 rfl ?_
      exact r_zret C hr dX9_isOverdue_37 (by decide) (by decide) (by decide) ⟨Or.inr ⟨by omega, rfl⟩, rfl, rfl⟩
    · refine r_iconst (q := 33) C dX9_isOverdue_32 rfl ?_
      refine r_goto (q := 37) C dX9_isOverdue_33 (by decide) ?_
      exact r_zret C hr dX9_isOverdue_37 (by decide) (by decide) (by decide) ⟨Or.inl ⟨⟨by omega, by omega⟩, rfl⟩, rfl, rfl⟩
theorem owes_ex {A : Nat → Int} {z : Int} : 0 < owesF A z 3 ↔ ∃ lx, lx < nLn A ∧ A (17 + 8 * lx) = z ∧ 0 < A (21 + 8 * lx) ∧ A (22 + 8 * lx) < A 2 := by
  have key : ∀ n : Nat, 0 ≤ sumF (fun jx => if A (17 + 8 * jx) = z then (if (3 : Int) = 0 then A (21 + 8 * jx) else if (3 : Int) = 1 then A (24 + 8 * jx) else if (3 : Int) = 2 then A (23 + 8 * jx) else if 0 < A (21 + 8 * jx) ∧ A (22 + 8 * jx) < A 2 then 1 else 0) else 0) n ∧ (0 < sumF (fun jx => if A (17 + 8 * jx) = z then (if (3 : Int) = 0 then A (21 + 8 * jx) else if (3 : Int) = 1 then A (24 + 8 * jx) else if (3 : Int) = 2 then A (23 + 8 * jx) else if 0 < A (21 + 8 * jx) ∧ A (22 + 8 * jx) < A 2 then 1 else 0) else 0) n ↔ ∃ lx, lx < n ∧ A (17 + 8 * lx) = z ∧ 0 < A (21 + 8 * lx) ∧ A (22 + 8 * lx) < A 2) := fun n => by
    induction n with
    | zero => exact ⟨Int.le_refl _, fun h => absurd (show (0 : Int) < 0 from h) (by decide), fun h => by obtain ⟨lx, h1, -⟩ := h; omega⟩
    | succ n ih =>
      obtain ⟨i1, i2⟩ := ih
      rw [sumF]
      try simp only
      by_cases c1 : A (17 + 8 * n) = z
      · rw [if_pos c1, if_neg (show ¬ (3 : Int) = 0 by decide), if_neg (show ¬ (3 : Int) = 1 by decide), if_neg (show ¬ (3 : Int) = 2 by decide)]
        by_cases c2 : 0 < A (21 + 8 * n) ∧ A (22 + 8 * n) < A 2
        · rw [if_pos c2]
          exact ⟨by omega, fun _ => ⟨n, by omega, c1, c2⟩, fun _ => by omega⟩
        · rw [if_neg c2, Int.add_zero]
          refine ⟨i1, fun h => ?_, fun h => ?_⟩
          · obtain ⟨lx, h1, h2⟩ := i2.mp h
            exact ⟨lx, by omega, h2⟩
          · obtain ⟨lx, h1, h2, h3⟩ := h
            by_cases hl : lx = n
            · subst hl
              exact absurd h3 c2
            · exact i2.mpr ⟨lx, by omega, h2, h3⟩
      · rw [if_neg c1, Int.add_zero]
        refine ⟨i1, fun h => ?_, fun h => ?_⟩
        · obtain ⟨lx, h1, h2⟩ := i2.mp h
          exact ⟨lx, by omega, h2⟩
        · obtain ⟨lx, h1, h2, h3⟩ := h
          by_cases hl : lx = n
          · subst hl
            exact absurd h2 c1
          · exact i2.mpr ⟨lx, by omega, h2, h3⟩
  exact (key (nLn A)).2
set_option maxRecDepth 20000 in
set_option maxHeartbeats 8000000 in
theorem c_X9_owes {T : oT} {σ : oM} {mC : Nat} (hM : oMm T mC) {Bd : Int} (hI : oI Bd (σ (mC + 1))) {z : Int} (hz : o_r z) : MS yX9_owes cX9_owes 3 (some FieldType.boolean) 2 0 0 42 [og mC, oi z] T σ (oPb (0 < owesF (σ (mC + 1)) z 3) T σ) := by
  have hMc := hM
  obtain ⟨hM0, hMr0, hMr1, hMr2, hMr3, hMr8, hMr9, hMr10, hMr11, hMr13, hMr14, hMr15, hMr16, hMr17, hMr18, hMr19, hMr20, hMk1, hMk2, hMk3, hMk4, hMk5, hMk6, hMk7, hMk8, hMk9, hMk10, hMk11, hMk12, hMk13, hMk14, hMk15, hMk16, hMT⟩ := hMc
  have hI0 := hI.2.1
  have hI1 := hI.2.2.1
  have hI2 := hI.2.2.2.1
  have hIn := oI_n hI
  have hIB := hI.1
  refine o_met (by decide +kernel) (Nat.le_of_ble_eq_true rfl) (fun p l ee s m args below meth c G b C hr hn => ?_)
  have C : oCx p s m args meth c G b RX9 cX9_owes 3 := C
  show oW p l ee ({ frames := 2, cells := 0, slots := 0, locals := 42 } : Room) s m args below meth c G b 3 0 0 (MQ below (o_Qc G b (oPb (0 < owesF (σ (mC + 1)) z 3) T σ)) args s 0 0 (fun q => b ≤ q)) T σ 0 [some (og mC), some (oi z), none] []
  have lp : ∀ (n : Nat) (jx : Nat), nLn (σ (mC + 1)) - jx < n → (jx ≤ nLn (σ (mC + 1))) → (∀ lx, lx < jx → ¬ ((σ (mC + 1)) (17 + 8 * lx) = z ∧ 0 < (σ (mC + 1)) (21 + 8 * lx) ∧ (σ (mC + 1)) (22 + 8 * lx) < (σ (mC + 1)) 2)) → oW p l ee ({ frames := 2, cells := 0, slots := 0, locals := 42 } : Room) s m args below meth c G b 3 0 0 (MQ below (o_Qc G b (oPb (0 < owesF (σ (mC + 1)) z 3) T σ)) args s 0 0 (fun q => b ≤ q)) T σ 2 [some (og mC), some (oi z), some (oi ((jx : Nat) : Int))] [] := by
    intro n
    induction n with
    | zero =>
      intro jx hms
      exact absurd hms (Nat.not_lt_zero _)
    | succ n ih =>
      intro jx hms h1 h2
      refine r_il2 (q := 3) C dX9_owes_2 rfl ?_
      refine r_al0 (q := 4) C dX9_owes_3 rfl ?_
      refine r_getR (q := 7) C f_X9_9 dX9_owes_4 rfl rfl (by assumption) (by assumption) (by omega) ?_
      refine r_iconst (q := 8) C dX9_owes_7 rfl ?_
      refine r_iald (q := 9) C (1) dX9_owes_8 rfl (by assumption) (by omega) (by omega) (by omega) (by decide) ?_
      refine r_icge (q := 42) (q2 := 12) C (by omega) (by omega) dX9_owes_9 (by decide) rfl (fun br9 => ?_) (fun br9 => ?_)
      · refine r_iconst (q := 43) C dX9_owes_42 rfl ?_
        exact r_zret C hr dX9_owes_43 (by decide) (by decide) (by decide) ⟨Or.inr ⟨fun hc => by obtain ⟨lx, l1, l2⟩ := owes_ex.mp hc; exact h2 lx (by omega) l2, rfl⟩, rfl, rfl⟩
      · have hIl := hI.2.2.2.2.2.2.1 jx (by omega)
        refine r_al0 (q := 13) C dX9_owes_12 rfl ?_
        refine r_getR (q := 16) C f_X9_9 dX9_owes_13 rfl rfl (by assumption) (by assumption) (by omega) ?_
        refine r_il2 (q := 17) C dX9_owes_16 rfl ?_
        refine r_iconst (q := 18) C dX9_owes_17 rfl ?_
        refine r_callS1 (q := 21) C (c_X9_loanAt) m_X9_192 dX9_owes_18 rfl rfl (by decide) (by decide) (Nat.le_of_ble_eq_true rfl) ?_
        refine r_iald (q := 22) C ((17 + 8 * jx)) dX9_owes_21 rfl (by assumption) (by omega) (by omega) (by omega) (by decide) ?_
        refine r_il1 (q := 23) C dX9_owes_22 rfl ?_
        refine r_icne (q := 36) (q2 := 26) C (by omega) (by omega) dX9_owes_23 (by decide) rfl (fun br23 => ?_) (fun br23 => ?_)
        · refine r_iinc2 (q := 39) C dX9_owes_36 rfl (by decide) ?_
          refine r_goto (q := 2) C dX9_owes_39 (by decide) ?_
          exact ih (jx + 1) (by omega) (by omega) (fun lx hl hc => (Nat.lt_or_ge lx jx).elim (fun q => h2 lx q hc) (fun q => by rw [show lx = jx by omega] at hc; exact br23 hc.1))
        · refine r_al0 (q := 27) C dX9_owes_26 rfl ?_
          refine r_il2 (q := 28) C dX9_owes_27 rfl ?_
          refine r_callVb (q := 31) C (c_X9_isOverdue (lN := jx) hM hI (by omega)) m_X9_195 (by assumption) (by omega) dX9_owes_28 rfl rfl (by decide) (by decide) (Nat.le_of_ble_eq_true rfl) (fun br28 => ?_) (fun br28 => ?_)
          · refine r_ifeq_f (q := 36) (q2 := 34) C (by decide) (by omega) dX9_owes_31 (by decide) rfl ?_
            refine r_iconst (q := 35) C dX9_owes_34 rfl ?_
            exact r_zret C hr dX9_owes_35 (by decide) (by decide) (by decide) ⟨Or.inl ⟨owes_ex.mpr ⟨jx, by omega, br23, br28⟩, rfl⟩, rfl, rfl⟩
          · refine r_ifeq_t (q := 36) C (by decide) (by omega) dX9_owes_31 (by decide) ?_
            refine r_iinc2 (q := 39) C dX9_owes_36 rfl (by decide) ?_
            refine r_goto (q := 2) C dX9_owes_39 (by decide) ?_
            exact ih (jx + 1) (by omega) (by omega) (fun lx hl hc => (Nat.lt_or_ge lx jx).elim (fun q => h2 lx q hc) (fun q => by rw [show lx = jx by omega] at hc; exact br28 hc.2))
  refine r_iconst (q := 1) C dX9_owes_0 rfl ?_
  refine r_is2 (q := 2) C dX9_owes_1 rfl (by decide) ?_
  exact lp _ 0 (Nat.lt_succ_self _) (by omega) (fun lx hl => absurd hl (Nat.not_lt_zero _))
/-- all bowings of an edition -/
def bowF (A : Nat → Int) (eN : Nat) : Int := sumF (fun jx => sumF (fun ix => nz (A (194 + 813 * eN + 8 * (jx + 1) + ix))) 4) (nBr A eN)
theorem sumF_0 {n : Nat} : sumF (fun _ => 0) n = 0 := by
  induction n with
  | zero => rfl
  | succ n ih => rw [sumF, ih]; rfl
theorem sumF_sw {f : Nat → Nat → Int} {k : Nat} : ∀ n : Nat, sumF (fun j => sumF (fun i => f i j) k) n = sumF (fun i => sumF (fun j => f i j) n) k
  | 0 => by
    show (0 : Int) = sumF (fun i => 0) k
    rw [sumF_0]
  | n + 1 => by
    rw [sumF, sumF_sw n, ← sumF_add]
    rfl
set_option maxRecDepth 20000 in
set_option maxHeartbeats 8000000 in
theorem c_X9_bowingsOf {T : oT} {σ : oM} {mC : Nat} (hM : oMm T mC) {Bd : Int} (hI : oI Bd (σ (mC + 1))) {eN : Nat} (heN : eN < nEd (σ (mC + 1))) : MS yX9_bowingsOf cX9_bowingsOf 5 (some FieldType.int) 2 0 0 42 [og mC, oi ((eN : Nat) : Int)] T σ (oP1 (oi (bowF (σ (mC + 1)) eN)) T σ) := by
  have hMc := hM
  obtain ⟨hM0, hMr0, hMr1, hMr2, hMr3, hMr8, hMr9, hMr10, hMr11, hMr13, hMr14, hMr15, hMr16, hMr17, hMr18, hMr19, hMr20, hMk1, hMk2, hMk3, hMk4, hMk5, hMk6, hMk7, hMk8, hMk9, hMk10, hMk11, hMk12, hMk13, hMk14, hMk15, hMk16, hMT⟩ := hMc
  have hI0 := hI.2.1
  have hI1 := hI.2.2.1
  have hI2 := hI.2.2.2.1
  have hIn := oI_n hI
  have hIB := hI.1
  have hIE := oI_b hI heN
  refine o_met (by decide +kernel) (Nat.le_of_ble_eq_true rfl) (fun p l ee s m args below meth c G b C hr hn => ?_)
  have C : oCx p s m args meth c G b RX9 cX9_bowingsOf 5 := C
  show oW p l ee ({ frames := 2, cells := 0, slots := 0, locals := 42 } : Room) s m args below meth c G b 5 0 0 (MQ below (o_Qc G b (oP1 (oi (bowF (σ (mC + 1)) eN)) T σ)) args s 0 0 (fun q => b ≤ q)) T σ 0 [some (og mC), some (oi ((eN : Nat) : Int)), none, none, none] []
  have lp : ∀ (n : Nat) (jx : Nat) (w4 : Option oV), nBr (σ (mC + 1)) eN + 1 - jx < n → (1 ≤ jx ∧ jx ≤ nBr (σ (mC + 1)) eN + 1) → oW p l ee ({ frames := 2, cells := 0, slots := 0, locals := 42 } : Room) s m args below meth c G b 5 0 0 (MQ below (o_Qc G b (oP1 (oi (bowF (σ (mC + 1)) eN)) T σ)) args s 0 0 (fun q => b ≤ q)) T σ 4 [some (og mC), some (oi ((eN : Nat) : Int)), some (oi (sumF (fun jx => sumF (fun ix => nz ((σ (mC + 1)) (194 + 813 * eN + 8 * (jx + 1) + ix))) 4) (jx - 1))), some (oi ((jx : Nat) : Int)), w4] [] := by
    intro n
    induction n with
    | zero =>
      intro jx w4 hms
      exact absurd hms (Nat.not_lt_zero _)
    | succ n ih =>
      intro jx w4 hms h1
      refine r_il3 (q := 5) C dX9_bowingsOf_4 rfl ?_
      refine r_al0 (q := 6) C dX9_bowingsOf_5 rfl ?_
      refine r_il1 (q := 7) C dX9_bowingsOf_6 rfl ?_
      refine r_callV1 (q := 10) C (c_X9_bars hM (by omega)) m_X9_116 (by assumption) (by omega) dX9_bowingsOf_7 rfl rfl (by decide) (by decide) (Nat.le_of_ble_eq_true rfl) ?_
      rw [← hIE.2.1]
      refine r_icgt (q := 60) (q2 := 13) C (by omega) (by omega) dX9_bowingsOf_10 (by decide) rfl (fun br10 => ?_) (fun br10 => ?_)
      · refine r_il2 (q := 61) C dX9_bowingsOf_60 rfl ?_
        exact r_iret C hr dX9_bowingsOf_61 (by decide) (by decide) ⟨by rw [show jx - 1 = nBr (σ (mC + 1)) eN by omega]; rfl, rfl, rfl⟩
      · refine r_iconst (q := 14) C dX9_bowingsOf_13 rfl ?_
        refine r_is4 (q := 16) C dX9_bowingsOf_14 rfl (by decide) ?_
        have lp2 : ∀ (n2 : Nat) (kx : Nat), 4 - kx < n2 → (kx ≤ 4) → oW p l ee ({ frames := 2, cells := 0, slots := 0, locals := 42 } : Room) s m args below meth c G b 5 0 0 (MQ below (o_Qc G b (oP1 (oi (bowF (σ (mC + 1)) eN)) T σ)) args s 0 0 (fun q => b ≤ q)) T σ 16 [some (og mC), some (oi ((eN : Nat) : Int)), some (oi ((sumF (fun jx => sumF (fun ix => nz ((σ (mC + 1)) (194 + 813 * eN + 8 * (jx + 1) + ix))) 4) (jx - 1)) + (sumF (fun ix => nz ((σ (mC + 1)) (194 + 813 * eN + 8 * (jx - 1 + 1) + ix))) kx))), some (oi ((jx : Nat) : Int)), some (oi ((kx : Nat) : Int))] [] := by
          intro n2
          induction n2 with
          | zero =>
            intro kx hms
            exact absurd hms (Nat.not_lt_zero _)
          | succ n2 ih2 =>
            intro kx hms k1
            refine r_il4 (q := 18) C dX9_bowingsOf_16 rfl ?_
            refine r_iconst (q := 19) C dX9_bowingsOf_18 rfl ?_
            refine r_icge (q := 54) (q2 := 22) C (by omega) (by omega) dX9_bowingsOf_19 (by decide) rfl (fun br19 => ?_) (fun br19 => ?_)
            · refine r_iinc3 (q := 57) C dX9_bowingsOf_54 rfl (by decide) ?_
              refine r_goto (q := 4) C dX9_bowingsOf_57 (by decide) ?_
              have e1 : (sumF (fun jx => sumF (fun ix => nz ((σ (mC + 1)) (194 + 813 * eN + 8 * (jx + 1) + ix))) 4) (jx - 1)) + (sumF (fun ix => nz ((σ (mC + 1)) (194 + 813 * eN + 8 * (jx - 1 + 1) + ix))) kx) = sumF (fun jx => sumF (fun ix => nz ((σ (mC + 1)) (194 + 813 * eN + 8 * (jx + 1) + ix))) 4) (jx + 1 - 1) := by
                rw [show kx = 4 by omega, show jx + 1 - 1 = (jx - 1) + 1 by omega]
                rfl
              rw [e1]
              exact ih (jx + 1) _ (by omega) (by omega)
            · have hq := ((oI_b hI heN).1.2.2.2.2 jx (by omega) (by omega)).2.2.2.2 kx (by omega)
              have hq2 : 194 + 813 * eN + 8 * (jx - 1 + 1) + kx = 194 + 813 * eN + 8 * jx + kx := by omega
              refine r_il2 (q := 23) C dX9_bowingsOf_22 rfl ?_
              refine r_al0 (q := 24) C dX9_bowingsOf_23 rfl ?_
              refine r_getR (q := 27) C f_X9_9 dX9_bowingsOf_24 rfl rfl (by assumption) (by assumption) (by omega) ?_
              refine r_il1 (q := 28) C dX9_bowingsOf_27 rfl ?_
              refine r_il3 (q := 29) C dX9_bowingsOf_28 rfl ?_
              refine r_callS1 (q := 32) C (c_X9_placeOf) m_X9_132 dX9_bowingsOf_29 rfl rfl (by decide) (by decide) (Nat.le_of_ble_eq_true rfl) ?_
              refine r_iconst (q := 33) C dX9_bowingsOf_32 rfl ?_
              refine r_iadd (q := 34) C dX9_bowingsOf_33 rfl ?_
              refine r_il4 (q := 36) C dX9_bowingsOf_34 rfl ?_
              refine r_iadd (q := 37) C dX9_bowingsOf_36 rfl ?_
              refine r_iald (q := 38) C ((194 + 813 * eN + 8 * (jx - 1 + 1) + kx)) dX9_bowingsOf_37 rfl (by assumption) (by omega) (by omega) (by omega) (by decide) ?_
              rw [hq2]
              refine r_ifle (q := 45) (q2 := 41) C (by omega) dX9_bowingsOf_38 (by decide) rfl (fun br38 => ?_) (fun br38 => ?_)
              · refine r_iconst (q := 46) C dX9_bowingsOf_45 rfl ?_
                refine r_iadd (q := 47) C dX9_bowingsOf_46 rfl ?_
                refine r_is2 (q := 48) C dX9_bowingsOf_47 rfl (by decide) ?_
                refine r_iinc4 (q := 51) C dX9_bowingsOf_48 rfl (by decide) ?_
                refine r_goto (q := 16) C dX9_bowingsOf_51 (by decide) ?_
                have e1 : (sumF (fun jx => sumF (fun ix => nz ((σ (mC + 1)) (194 + 813 * eN + 8 * (jx + 1) + ix))) 4) (jx - 1)) + (sumF (fun ix => nz ((σ (mC + 1)) (194 + 813 * eN + 8 * (jx - 1 + 1) + ix))) kx) + 0 = (sumF (fun jx => sumF (fun ix => nz ((σ (mC + 1)) (194 + 813 * eN + 8 * (jx + 1) + ix))) 4) (jx - 1)) + (sumF (fun ix => nz ((σ (mC + 1)) (194 + 813 * eN + 8 * (jx - 1 + 1) + ix))) (kx + 1)) := by
                  rw [sumF, hq2, nz, if_pos (by omega)]
                  omega
                rw [e1]
                exact ih2 (kx + 1) (by omega) (by omega)
              · refine r_iconst (q := 42) C dX9_bowingsOf_41 rfl ?_
                refine r_goto (q := 46) C dX9_bowingsOf_42 (by decide) ?_
                refine r_iadd (q := 47) C dX9_bowingsOf_46 rfl ?_
                refine r_is2 (q := 48) C dX9_bowingsOf_47 rfl (by decide) ?_
                refine r_iinc4 (q := 51) C dX9_bowingsOf_48 rfl (by decide) ?_
                refine r_goto (q := 16) C dX9_bowingsOf_51 (by decide) ?_
                have e1 : (sumF (fun jx => sumF (fun ix => nz ((σ (mC + 1)) (194 + 813 * eN + 8 * (jx + 1) + ix))) 4) (jx - 1)) + (sumF (fun ix => nz ((σ (mC + 1)) (194 + 813 * eN + 8 * (jx - 1 + 1) + ix))) kx) + 1 = (sumF (fun jx => sumF (fun ix => nz ((σ (mC + 1)) (194 + 813 * eN + 8 * (jx + 1) + ix))) 4) (jx - 1)) + (sumF (fun ix => nz ((σ (mC + 1)) (194 + 813 * eN + 8 * (jx - 1 + 1) + ix))) (kx + 1)) := by
                  rw [sumF, hq2, nz, if_neg (by omega)]
                  omega
                rw [e1]
                exact ih2 (kx + 1) (by omega) (by omega)
        have h0 := lp2 _ 0 (Nat.lt_succ_self _) (by omega)
        rw [sumF, Int.add_zero] at h0
        exact h0
  refine r_iconst (q := 1) C dX9_bowingsOf_0 rfl ?_
  refine r_is2 (q := 2) C dX9_bowingsOf_1 rfl (by decide) ?_
  refine r_iconst (q := 3) C dX9_bowingsOf_2 rfl ?_
  refine r_is3 (q := 4) C dX9_bowingsOf_3 rfl (by decide) ?_
  have h0 := lp _ 1 none (Nat.lt_succ_self _) (by omega)
  exact h0
