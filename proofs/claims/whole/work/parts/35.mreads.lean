set_option maxRecDepth 20000 in
set_option maxHeartbeats 8000000 in
theorem c_X9_needs {T : oT} {σ : oM} {mC : Nat} (hM : oMm T mC) {Bd : Int} (hI : oI Bd (σ (mC + 1))) {z : Int} (hz : o_r z) : MS yX9_needs cX9_needs 3 (some FieldType.int) 2 0 0 42 [og mC, oi z] T σ (oP1 (oi (fNeeds (σ (mC + 1)) z)) T σ) := by
  have hMc := hM
  obtain ⟨hM0, hMr0, hMr1, hMr2, hMr3, hMr8, hMr9, hMr10, hMr11, hMr13, hMr14, hMr15, hMr16, hMr17, hMr18, hMr19, hMr20, hMk1, hMk2, hMk3, hMk4, hMk5, hMk6, hMk7, hMk8, hMk9, hMk10, hMk11, hMk12, hMk13, hMk14, hMk15, hMk16, hMT⟩ := hMc
  have hI0 := hI.2.1
  have hI1 := hI.2.2.1
  have hI2 := hI.2.2.2.1
  have hIn := oI_n hI
  have hIB := hI.1
  refine o_met (by decide +kernel) (Nat.le_of_ble_eq_true rfl) (fun p l ee s m args below meth c G b C hr hn => ?_)
  have C : oCx p s m args meth c G b RX9 cX9_needs 3 := C
  show oW p l ee ({ frames := 2, cells := 0, slots := 0, locals := 42 } : Room) s m args below meth c G b 3 0 0 (MQ below (o_Qc G b (oP1 (oi (fNeeds (σ (mC + 1)) z)) T σ)) args s 0 0 (fun q => b ≤ q)) T σ 0 [some (og mC), some (oi z), none] []
  refine r_il1 (q := 1) C dX9_needs_0 rfl ?_
  refine r_callSb (q := 4) C (c_X9_isInstrument (by omega)) m_X9_186 dX9_needs_1 rfl rfl (by decide) (by decide) (Nat.le_of_ble_eq_true rfl) (fun br1 => ?_) (fun br1 => ?_)
  · refine r_ifne_t (q := 9) C (by decide) (by omega) dX9_needs_4 (by decide) ?_
    have hs := fNeeds.eq_1 (σ (mC + 1)) z
    rw [if_pos br1] at hs
    obtain ⟨iN, rfl⟩ : ∃ iN : Nat, z = (iN : Int) := ⟨z.toNat, by omega⟩
    rw [Int.toNat_natCast] at hs
    have hpb := hI.2.2.2.2.2.1 iN (by omega)
    refine r_al0 (q := 10) C dX9_needs_9 rfl ?_
    refine r_getR (q := 13) C f_X9_9 dX9_needs_10 rfl rfl (by assumption) (by assumption) (by omega) ?_
    refine r_bipush (q := 15) C dX9_needs_13 (by decide) rfl ?_
    refine r_il1 (q := 16) C dX9_needs_15 rfl ?_
    refine r_iadd (q := 17) C dX9_needs_16 rfl ?_
    refine r_iald (q := 18) C ((11 + iN)) dX9_needs_17 rfl (by assumption) (by omega) (by omega) (by omega) (by decide) ?_
    refine r_is2 (q := 19) C dX9_needs_18 rfl (by decide) ?_
    refine r_il1 (q := 20) C dX9_needs_19 rfl ?_
    refine r_iconst (q := 21) C dX9_needs_20 rfl ?_
    refine r_icge (q := 32) (q2 := 24) C (by omega) (by omega) dX9_needs_21 (by decide) rfl (fun br21 => ?_) (fun br21 => ?_)
    · refine r_il2 (q := 33) C dX9_needs_32 rfl ?_
      exact r_iret C hr dX9_needs_33 (by decide) (by decide) ⟨by rw [hs, deskF, if_neg (by omega)], rfl, rfl⟩
    · refine r_il2 (q := 25) C dX9_needs_24 rfl ?_
      refine r_iconst (q := 26) C dX9_needs_25 rfl ?_
      refine r_iadd (q := 27) C dX9_needs_26 rfl ?_
      refine r_iconst (q := 28) C dX9_needs_27 rfl ?_
      refine r_idiv (q := 29) (z := (((σ (mC + 1)) (11 + iN) + 1) / 2)) C (by omega) (by omega) rfl dX9_needs_28 rfl ?_
      refine r_goto (q := 33) C dX9_needs_29 (by decide) ?_
      exact r_iret C hr dX9_needs_33 (by decide) (by decide) ⟨by rw [hs, deskF, if_pos (by omega)], rfl, rfl⟩
  · refine r_ifne_f (q := 9) (q2 := 7) C (by decide) (by omega) dX9_needs_4 (by decide) rfl ?_
    refine r_iconst (q := 8) C dX9_needs_7 rfl ?_
    exact r_iret C hr dX9_needs_8 (by decide) (by decide) ⟨by rw [fNeeds, if_neg br1], rfl, rfl⟩
set_option maxRecDepth 20000 in
set_option maxHeartbeats 8000000 in
theorem c_X9_stock {T : oT} {σ : oM} {mC : Nat} (hM : oMm T mC) {Bd : Int} (hI : oI Bd (σ (mC + 1))) {z v w : Int} (hz : o_r z) (hv : o_r v) (hw : o_r w) : MS yX9_stock cX9_stock 4 (some FieldType.int) 3 0 0 65 [og mC, oi z, oi v, oi w] T σ (oP1 (oi (fStock (σ (mC + 1)) z v w)) T σ) := by
  have hMc := hM
  obtain ⟨hM0, hMr0, hMr1, hMr2, hMr3, hMr8, hMr9, hMr10, hMr11, hMr13, hMr14, hMr15, hMr16, hMr17, hMr18, hMr19, hMr20, hMk1, hMk2, hMk3, hMk4, hMk5, hMk6, hMk7, hMk8, hMk9, hMk10, hMk11, hMk12, hMk13, hMk14, hMk15, hMk16, hMT⟩ := hMc
  have hI0 := hI.2.1
  have hI1 := hI.2.2.1
  have hI2 := hI.2.2.2.1
  have hIn := oI_n hI
  have hIB := hI.1
  refine o_met (by decide +kernel) (Nat.le_of_ble_eq_true rfl) (fun p l ee s m args below meth c G b C hr hn => ?_)
  have C : oCx p s m args meth c G b RX9 cX9_stock 4 := C
  show oW p l ee ({ frames := 3, cells := 0, slots := 0, locals := 65 } : Room) s m args below meth c G b 4 0 0 (MQ below (o_Qc G b (oP1 (oi (fStock (σ (mC + 1)) z v w)) T σ)) args s 0 0 (fun q => b ≤ q)) T σ 0 [some (og mC), some (oi z), some (oi v), some (oi w)] []
  refine r_al0 (q := 1) C dX9_stock_0 rfl ?_
  refine r_il1 (q := 2) C dX9_stock_1 rfl ?_
  refine r_callVb (q := 5) C (c_X9_isEdition hM hI (by omega)) m_X9_112 (by assumption) (by omega) dX9_stock_2 rfl rfl (by decide) (by decide) (Nat.le_of_ble_eq_true rfl) (fun br2 => ?_) (fun br2 => ?_)
  · refine r_ifeq_f (q := 15) (q2 := 8) C (by decide) (by omega) dX9_stock_5 (by decide) rfl ?_
    refine r_il2 (q := 9) C dX9_stock_8 rfl ?_
    refine r_callSb (q := 12) C (c_X9_isInstrument (by omega)) m_X9_186 dX9_stock_9 rfl rfl (by decide) (by decide) (Nat.le_of_ble_eq_true rfl) (fun br9 => ?_) (fun br9 => ?_)
    · refine r_ifne_t (q := 17) C (by decide) (by omega) dX9_stock_12 (by decide) ?_
      obtain ⟨eN, rfl, heN, heN6⟩ := isEd_n hI br2
      have hIE := oI_b hI heN
      obtain ⟨iN, rfl⟩ : ∃ iN : Nat, v = (iN : Int) := ⟨v.toNat, by omega⟩
      have hs := fStock_y (w := w) br2 (show iN < 6 by omega)
      refine r_il3 (q := 18) C dX9_stock_17 rfl ?_
      rcases (show w = 0 ∨ w = 1 ∨ w = 2 ∨ w = 3 ∨ (w < 0 ∨ 3 < w) by omega) with hw1 | hw1 | hw1 | hw1 | hw1
      ·
        refine r_tsin (q := 48) (j := 0) C dX9_stock_18 (by omega) (by omega) (by decide) rfl (by decide) ?_
        refine r_al0 (q := 49) C dX9_stock_48 rfl ?_
        refine r_il1 (q := 50) C dX9_stock_49 rfl ?_
        refine r_il2 (q := 51) C dX9_stock_50 rfl ?_
        refine r_callV1 (q := 54) C (c_X9_bought hM (by omega) (by omega)) m_X9_120 (by assumption) (by omega) dX9_stock_51 rfl rfl (by decide) (by decide) (Nat.le_of_ble_eq_true rfl) ?_
        exact r_iret C hr dX9_stock_54 (by decide) (by decide) ⟨by rw [hs, if_pos hw1], rfl, rfl⟩
      ·
        refine r_tsin (q := 55) (j := 1) C dX9_stock_18 (by omega) (by omega) (by decide) rfl (by decide) ?_
        refine r_al0 (q := 56) C dX9_stock_55 rfl ?_
        refine r_il1 (q := 57) C dX9_stock_56 rfl ?_
        refine r_il2 (q := 58) C dX9_stock_57 rfl ?_
        refine r_callV1 (q := 61) C (c_X9_inOf hM (by omega) (by omega)) m_X9_189 (by assumption) (by omega) dX9_stock_58 rfl rfl (by decide) (by decide) (Nat.le_of_ble_eq_true rfl) ?_
        exact r_iret C hr dX9_stock_61 (by decide) (by decide) ⟨by rw [hs, if_neg (by omega), if_pos hw1]; rfl, rfl, rfl⟩
      ·
        refine r_tsin (q := 62) (j := 2) C dX9_stock_18 (by omega) (by omega) (by decide) rfl (by decide) ?_
        refine r_al0 (q := 63) C dX9_stock_62 rfl ?_
        refine r_il1 (q := 64) C dX9_stock_63 rfl ?_
        refine r_il2 (q := 65) C dX9_stock_64 rfl ?_
        refine r_callV1 (q := 68) C (c_X9_outOf hM (by omega) (by omega)) m_X9_123 (by assumption) (by omega) dX9_stock_65 rfl rfl (by decide) (by decide) (Nat.le_of_ble_eq_true rfl) ?_
        exact r_iret C hr dX9_stock_68 (by decide) (by decide) ⟨by rw [hs, if_neg (by omega), if_neg (by omega), if_pos hw1], rfl, rfl⟩
      ·
        refine r_tsin (q := 69) (j := 3) C dX9_stock_18 (by omega) (by omega) (by decide) rfl (by decide) ?_
        refine r_al0 (q := 70) C dX9_stock_69 rfl ?_
        refine r_il1 (q := 71) C dX9_stock_70 rfl ?_
        refine r_il2 (q := 72) C dX9_stock_71 rfl ?_
        refine r_callV1 (q := 75) C (c_X9_lostOf hM (by omega) (by omega)) m_X9_126 (by assumption) (by omega) dX9_stock_72 rfl rfl (by decide) (by decide) (Nat.le_of_ble_eq_true rfl) ?_
        exact r_iret C hr dX9_stock_75 (by decide) (by decide) ⟨by rw [hs, if_neg (by omega), if_neg (by omega), if_neg (by omega), if_pos hw1], rfl, rfl⟩
      ·
        refine r_tsout (q := 76) C dX9_stock_18 (by omega) (by omega) (by decide) ?_
        refine r_iconst (q := 77) C dX9_stock_76 rfl ?_
        exact r_iret C hr dX9_stock_77 (by decide) (by decide) ⟨by rw [hs, if_neg (by omega), if_neg (by omega), if_neg (by omega), if_neg (by omega)], rfl, rfl⟩
    · refine r_ifne_f (q := 17) (q2 := 15) C (by decide) (by omega) dX9_stock_12 (by decide) rfl ?_
      refine r_iconst (q := 16) C dX9_stock_15 rfl ?_
      exact r_iret C hr dX9_stock_16 (by decide) (by decide) ⟨by rw [fStock, if_neg (fun hc => br9 hc.2)], rfl, rfl⟩
  · refine r_ifeq_t (q := 15) C (by decide) (by omega) dX9_stock_5 (by decide) ?_
    refine r_iconst (q := 16) C dX9_stock_15 rfl ?_
    exact r_iret C hr dX9_stock_16 (by decide) (by decide) ⟨by rw [fStock, if_neg (fun hc => br2 hc.1)], rfl, rfl⟩
set_option maxRecDepth 20000 in
set_option maxHeartbeats 8000000 in
theorem c_X9_bowing {T : oT} {σ : oM} {mC : Nat} (hM : oMm T mC) {Bd : Int} (hI : oI Bd (σ (mC + 1))) {z v w : Int} (hz : o_r z) (hv : o_r v) (hw : o_r w) : MS yX9_bowing cX9_bowing 4 (some FieldType.int) 3 0 0 65 [og mC, oi z, oi v, oi w] T σ (oP1 (oi (fBowing (σ (mC + 1)) z v w)) T σ) := by
  have hMc := hM
  obtain ⟨hM0, hMr0, hMr1, hMr2, hMr3, hMr8, hMr9, hMr10, hMr11, hMr13, hMr14, hMr15, hMr16, hMr17, hMr18, hMr19, hMr20, hMk1, hMk2, hMk3, hMk4, hMk5, hMk6, hMk7, hMk8, hMk9, hMk10, hMk11, hMk12, hMk13, hMk14, hMk15, hMk16, hMT⟩ := hMc
  have hI0 := hI.2.1
  have hI1 := hI.2.2.1
  have hI2 := hI.2.2.2.1
  have hIn := oI_n hI
  have hIB := hI.1
  refine o_met (by decide +kernel) (Nat.le_of_ble_eq_true rfl) (fun p l ee s m args below meth c G b C hr hn => ?_)
  have C : oCx p s m args meth c G b RX9 cX9_bowing 4 := C
  show oW p l ee ({ frames := 3, cells := 0, slots := 0, locals := 65 } : Room) s m args below meth c G b 4 0 0 (MQ below (o_Qc G b (oP1 (oi (fBowing (σ (mC + 1)) z v w)) T σ)) args s 0 0 (fun q => b ≤ q)) T σ 0 [some (og mC), some (oi z), some (oi v), some (oi w)] []
  refine r_al0 (q := 1) C dX9_bowing_0 rfl ?_
  refine r_il1 (q := 2) C dX9_bowing_1 rfl ?_
  refine r_il3 (q := 3) C dX9_bowing_2 rfl ?_
  refine r_callVb (q := 6) C (c_X9_isBar hM hI (by omega) (by omega)) m_X9_135 (by assumption) (by omega) dX9_bowing_3 rfl rfl (by decide) (by decide) (Nat.le_of_ble_eq_true rfl) (fun br3 => ?_) (fun br3 => ?_)
  · refine r_ifeq_f (q := 35) (q2 := 9) C (by decide) (by omega) dX9_bowing_6 (by decide) rfl ?_
    refine r_il2 (q := 10) C dX9_bowing_9 rfl ?_
    refine r_iconst (q := 11) C dX9_bowing_10 rfl ?_
    refine r_iconst (q := 12) C dX9_bowing_11 rfl ?_
    refine r_callSb (q := 15) C (c_X9_in hv (by omega) (by omega)) m_X9_108 dX9_bowing_12 rfl rfl (by decide) (by decide) (Nat.le_of_ble_eq_true rfl) (fun br12 => ?_) (fun br12 => ?_)
    · refine r_ifeq_f (q := 35) (q2 := 18) C (by decide) (by omega) dX9_bowing_15 (by decide) rfl ?_
      obtain ⟨eN, bN, rfl, rfl, heN, heN6, hbN1, hbN2, hbN9⟩ := isBr_n hI br3
      have hIE := oI_b hI heN
      have hIb := hIE.1.2.2.2.2 bN hbN1 hbN2
      obtain ⟨iN, rfl⟩ : ∃ iN : Nat, v = (iN : Int) := ⟨v.toNat, by omega⟩
      refine r_al0 (q := 19) C dX9_bowing_18 rfl ?_
      refine r_getR (q := 22) C f_X9_9 dX9_bowing_19 rfl rfl (by assumption) (by assumption) (by omega) ?_
      refine r_il1 (q := 23) C dX9_bowing_22 rfl ?_
      refine r_il3 (q := 24) C dX9_bowing_23 rfl ?_
      refine r_callS1 (q := 27) C (c_X9_placeOf) m_X9_132 dX9_bowing_24 rfl rfl (by decide) (by decide) (Nat.le_of_ble_eq_true rfl) ?_
      refine r_iconst (q := 28) C dX9_bowing_27 rfl ?_
      refine r_iadd (q := 29) C dX9_bowing_28 rfl ?_
      refine r_il2 (q := 30) C dX9_bowing_29 rfl ?_
      refine r_iadd (q := 31) C dX9_bowing_30 rfl ?_
      refine r_iald (q := 32) C ((194 + 813 * eN + 8 * bN + iN)) dX9_bowing_31 rfl (by assumption) (by omega) (by omega) (by omega) (by decide) ?_
      refine r_goto (q := 36) C dX9_bowing_32 (by decide) ?_
      exact r_iret C hr dX9_bowing_36 (by decide) (by decide) ⟨by rw [fBowing_y br3 (by omega)], rfl, rfl⟩
    · refine r_ifeq_t (q := 35) C (by decide) (by omega) dX9_bowing_15 (by decide) ?_
      refine r_iconst (q := 36) C dX9_bowing_35 rfl ?_
      exact r_iret C hr dX9_bowing_36 (by decide) (by decide) ⟨by rw [fBowing, if_neg (fun hc => br12 hc.2)], rfl, rfl⟩
  · refine r_ifeq_t (q := 35) C (by decide) (by omega) dX9_bowing_6 (by decide) ?_
    refine r_iconst (q := 36) C dX9_bowing_35 rfl ?_
    exact r_iret C hr dX9_bowing_36 (by decide) (by decide) ⟨by rw [fBowing, if_neg (fun hc => br3 hc.1)], rfl, rfl⟩
set_option maxRecDepth 20000 in
set_option maxHeartbeats 8000000 in
theorem c_X9_bar {T : oT} {σ : oM} {mC : Nat} (hM : oMm T mC) {Bd : Int} (hI : oI Bd (σ (mC + 1))) {z v w : Int} (hz : o_r z) (hv : o_r v) (hw : o_r w) : MS yX9_bar cX9_bar 4 (some FieldType.int) 3 0 0 65 [og mC, oi z, oi v, oi w] T σ (oP1 (oi (fBar (σ (mC + 1)) z v w)) T σ) := by
  have hMc := hM
  obtain ⟨hM0, hMr0, hMr1, hMr2, hMr3, hMr8, hMr9, hMr10, hMr11, hMr13, hMr14, hMr15, hMr16, hMr17, hMr18, hMr19, hMr20, hMk1, hMk2, hMk3, hMk4, hMk5, hMk6, hMk7, hMk8, hMk9, hMk10, hMk11, hMk12, hMk13, hMk14, hMk15, hMk16, hMT⟩ := hMc
  have hI0 := hI.2.1
  have hI1 := hI.2.2.1
  have hI2 := hI.2.2.2.1
  have hIn := oI_n hI
  have hIB := hI.1
  refine o_met (by decide +kernel) (Nat.le_of_ble_eq_true rfl) (fun p l ee s m args below meth c G b C hr hn => ?_)
  have C : oCx p s m args meth c G b RX9 cX9_bar 4 := C
  show oW p l ee ({ frames := 3, cells := 0, slots := 0, locals := 65 } : Room) s m args below meth c G b 4 0 0 (MQ below (o_Qc G b (oP1 (oi (fBar (σ (mC + 1)) z v w)) T σ)) args s 0 0 (fun q => b ≤ q)) T σ 0 [some (og mC), some (oi z), some (oi v), some (oi w)] []
  refine r_al0 (q := 1) C dX9_bar_0 rfl ?_
  refine r_il1 (q := 2) C dX9_bar_1 rfl ?_
  refine r_il2 (q := 3) C dX9_bar_2 rfl ?_
  refine r_callVb (q := 6) C (c_X9_isBar hM hI (by omega) (by omega)) m_X9_135 (by assumption) (by omega) dX9_bar_3 rfl rfl (by decide) (by decide) (Nat.le_of_ble_eq_true rfl) (fun br3 => ?_) (fun br3 => ?_)
  · refine r_ifne_t (q := 11) C (by decide) (by omega) dX9_bar_6 (by decide) ?_
    obtain ⟨eN, bN, rfl, rfl, heN, heN6, hbN1, hbN2, hbN9⟩ := isBr_n hI br3
    have hIE := oI_b hI heN
    have hIb := hIE.1.2.2.2.2 bN hbN1 hbN2
    have hs := fBar_y (w := w) br3
    refine r_il3 (q := 12) C dX9_bar_11 rfl ?_
    rcases (show w = 0 ∨ w = 1 ∨ w = 2 ∨ w = 3 ∨ w = 4 ∨ (w < 0 ∨ 4 < w) by omega) with hw1 | hw1 | hw1 | hw1 | hw1 | hw1
    ·
      refine r_tsin (q := 48) (j := 0) C dX9_bar_12 (by omega) (by omega) (by decide) rfl (by decide) ?_
      refine r_al0 (q := 49) C dX9_bar_48 rfl ?_
      refine r_getR (q := 52) C f_X9_9 dX9_bar_49 rfl rfl (by assumption) (by assumption) (by omega) ?_
      refine r_il1 (q := 53) C dX9_bar_52 rfl ?_
      refine r_il2 (q := 54) C dX9_bar_53 rfl ?_
      refine r_callS1 (q := 57) C (c_X9_placeOf) m_X9_132 dX9_bar_54 rfl rfl (by decide) (by decide) (Nat.le_of_ble_eq_true rfl) ?_
      refine r_il3 (q := 58) C dX9_bar_57 rfl ?_
      refine r_iadd (q := 59) C dX9_bar_58 rfl ?_
      refine r_iald (q := 60) C ((190 + 813 * eN + 8 * bN)) dX9_bar_59 rfl (by assumption) (by omega) (by omega) (by omega) (by decide) ?_
      exact r_iret C hr dX9_bar_60 (by decide) (by decide) ⟨by rw [hs, if_pos hw1], rfl, rfl⟩
    ·
      refine r_tsin (q := 48) (j := 1) C dX9_bar_12 (by omega) (by omega) (by decide) rfl (by decide) ?_
      refine r_al0 (q := 49) C dX9_bar_48 rfl ?_
      refine r_getR (q := 52) C f_X9_9 dX9_bar_49 rfl rfl (by assumption) (by assumption) (by omega) ?_
      refine r_il1 (q := 53) C dX9_bar_52 rfl ?_
      refine r_il2 (q := 54) C dX9_bar_53 rfl ?_
      refine r_callS1 (q := 57) C (c_X9_placeOf) m_X9_132 dX9_bar_54 rfl rfl (by decide) (by decide) (Nat.le_of_ble_eq_true rfl) ?_
      refine r_il3 (q := 58) C dX9_bar_57 rfl ?_
      refine r_iadd (q := 59) C dX9_bar_58 rfl ?_
      refine r_iald (q := 60) C ((191 + 813 * eN + 8 * bN)) dX9_bar_59 rfl (by assumption) (by omega) (by omega) (by omega) (by decide) ?_
      exact r_iret C hr dX9_bar_60 (by decide) (by decide) ⟨by rw [hs, if_neg (by omega), if_pos hw1], rfl, rfl⟩
    ·
      refine r_tsin (q := 48) (j := 2) C dX9_bar_12 (by omega) (by omega) (by decide) rfl (by decide) ?_
      refine r_al0 (q := 49) C dX9_bar_48 rfl ?_
      refine r_getR (q := 52) C f_X9_9 dX9_bar_49 rfl rfl (by assumption) (by assumption) (by omega) ?_
      refine r_il1 (q := 53) C dX9_bar_52 rfl ?_
      refine r_il2 (q := 54) C dX9_bar_53 rfl ?_
      refine r_callS1 (q := 57) C (c_X9_placeOf) m_X9_132 dX9_bar_54 rfl rfl (by decide) (by decide) (Nat.le_of_ble_eq_true rfl) ?_
      refine r_il3 (q := 58) C dX9_bar_57 rfl ?_
      refine r_iadd (q := 59) C dX9_bar_58 rfl ?_
      refine r_iald (q := 60) C ((192 + 813 * eN + 8 * bN)) dX9_bar_59 rfl (by assumption) (by omega) (by omega) (by omega) (by decide) ?_
      exact r_iret C hr dX9_bar_60 (by decide) (by decide) ⟨by rw [hs, if_neg (by omega), if_neg (by omega), if_pos hw1], rfl, rfl⟩
    ·
      refine r_tsin (q := 61) (j := 3) C dX9_bar_12 (by omega) (by omega) (by decide) rfl (by decide) ?_
      refine r_al0 (q := 62) C dX9_bar_61 rfl ?_
      refine r_getR (q := 65) C f_X9_9 dX9_bar_62 rfl rfl (by assumption) (by assumption) (by omega) ?_
      refine r_il1 (q := 66) C dX9_bar_65 rfl ?_
      refine r_il2 (q := 67) C dX9_bar_66 rfl ?_
      refine r_callS1 (q := 70) C (c_X9_placeOf) m_X9_132 dX9_bar_67 rfl rfl (by decide) (by decide) (Nat.le_of_ble_eq_true rfl) ?_
      refine r_iconst (q := 71) C dX9_bar_70 rfl ?_
      refine r_iadd (q := 72) C dX9_bar_71 rfl ?_
      refine r_iald (q := 73) C ((193 + 813 * eN + 8 * bN)) dX9_bar_72 rfl (by assumption) (by omega) (by omega) (by omega) (by decide) ?_
      refine r_ifle (q := 91) (q2 := 76) C (by omega) dX9_bar_73 (by decide) rfl (fun br73 => ?_) (fun br73 => ?_)
      · refine r_bipush (q := 93) C dX9_bar_91 (by decide) rfl ?_
        exact r_iret C hr dX9_bar_93 (by decide) (by decide) ⟨by rw [hs, if_neg (by omega), if_neg (by omega), if_neg (by omega), if_pos hw1, if_pos (by omega)], rfl, rfl⟩
      · refine r_al0 (q := 77) C dX9_bar_76 rfl ?_
        refine r_getR (q := 80) C f_X9_9 dX9_bar_77 rfl rfl (by assumption) (by assumption) (by omega) ?_
        refine r_il1 (q := 81) C dX9_bar_80 rfl ?_
        refine r_il2 (q := 82) C dX9_bar_81 rfl ?_
        refine r_callS1 (q := 85) C (c_X9_placeOf) m_X9_132 dX9_bar_82 rfl rfl (by decide) (by decide) (Nat.le_of_ble_eq_true rfl) ?_
        refine r_iconst (q := 86) C dX9_bar_85 rfl ?_
        refine r_iadd (q := 87) C dX9_bar_86 rfl ?_
        refine r_iald (q := 88) C ((193 + 813 * eN + 8 * bN)) dX9_bar_87 rfl (by assumption) (by omega) (by omega) (by omega) (by decide) ?_
        refine r_goto (q := 93) C dX9_bar_88 (by decide) ?_
        exact r_iret C hr dX9_bar_93 (by decide) (by decide) ⟨by rw [hs, if_neg (by omega), if_neg (by omega), if_neg (by omega), if_pos hw1, if_neg (by omega)], rfl, rfl⟩
    ·
      refine r_tsin (q := 94) (j := 4) C dX9_bar_12 (by omega) (by omega) (by decide) rfl (by decide) ?_
      refine r_al0 (q := 95) C dX9_bar_94 rfl ?_
      refine r_il1 (q := 96) C dX9_bar_95 rfl ?_
      refine r_il2 (q := 97) C dX9_bar_96 rfl ?_
      refine r_callV1 (q := 100) C (c_X9_tempoAt (fx := bN) hM hI heN hbN2) m_X9_152 (by assumption) (by omega) dX9_bar_97 rfl rfl (by decide) (by decide) (Nat.le_of_ble_eq_true rfl) ?_
      exact r_iret C hr dX9_bar_100 (by decide) (by decide) ⟨by rw [hs, if_neg (by omega), if_neg (by omega), if_neg (by omega), if_neg (by omega), if_pos hw1], rfl, rfl⟩
    ·
      refine r_tsout (q := 101) C dX9_bar_12 (by omega) (by omega) (by decide) ?_
      refine r_iconst (q := 102) C dX9_bar_101 rfl ?_
      exact r_iret C hr dX9_bar_102 (by decide) (by decide) ⟨by rw [hs, if_neg (by omega), if_neg (by omega), if_neg (by omega), if_neg (by omega), if_neg (by omega)], rfl, rfl⟩
  · refine r_ifne_f (q := 11) (q2 := 9) C (by decide) (by omega) dX9_bar_6 (by decide) rfl ?_
    refine r_iconst (q := 10) C dX9_bar_9 rfl ?_
    exact r_iret C hr dX9_bar_10 (by decide) (by decide) ⟨by rw [fBar, if_neg br3], rfl, rfl⟩
set_option maxRecDepth 20000 in
set_option maxHeartbeats 8000000 in
theorem c_X9_carry {T : oT} {σ : oM} {mC : Nat} (hM : oMm T mC) {Bd : Int} (hI : oI Bd (σ (mC + 1))) {z v w : Int} (hz : o_r z) (hv : o_r v) (hw : o_r w) : MS yX9_carry cX9_carry 4 (some FieldType.int) 3 0 0 66 [og mC, oi z, oi v, oi w] T σ (oP1 (oi (fCarry (σ (mC + 1)) z v w)) T σ) := by
  have hMc := hM
  obtain ⟨hM0, hMr0, hMr1, hMr2, hMr3, hMr8, hMr9, hMr10, hMr11, hMr13, hMr14, hMr15, hMr16, hMr17, hMr18, hMr19, hMr20, hMk1, hMk2, hMk3, hMk4, hMk5, hMk6, hMk7, hMk8, hMk9, hMk10, hMk11, hMk12, hMk13, hMk14, hMk15, hMk16, hMT⟩ := hMc
  have hI0 := hI.2.1
  have hI1 := hI.2.2.1
  have hI2 := hI.2.2.2.1
  have hIn := oI_n hI
  have hIB := hI.1
  refine o_met (by decide +kernel) (Nat.le_of_ble_eq_true rfl) (fun p l ee s m args below meth c G b C hr hn => ?_)
  have C : oCx p s m args meth c G b RX9 cX9_carry 4 := C
  show oW p l ee ({ frames := 3, cells := 0, slots := 0, locals := 66 } : Room) s m args below meth c G b 4 0 0 (MQ below (o_Qc G b (oP1 (oi (fCarry (σ (mC + 1)) z v w)) T σ)) args s 0 0 (fun q => b ≤ q)) T σ 0 [some (og mC), some (oi z), some (oi v), some (oi w)] []
  refine r_al0 (q := 1) C dX9_carry_0 rfl ?_
  refine r_il1 (q := 2) C dX9_carry_1 rfl ?_
  refine r_il2 (q := 3) C dX9_carry_2 rfl ?_
  refine r_callVb (q := 6) C (c_X9_isBar hM hI (by omega) (by omega)) m_X9_135 (by assumption) (by omega) dX9_carry_3 rfl rfl (by decide) (by decide) (Nat.le_of_ble_eq_true rfl) (fun br3 => ?_) (fun br3 => ?_)
  · refine r_ifeq_f (q := 17) (q2 := 9) C (by decide) (by omega) dX9_carry_6 (by decide) rfl ?_
    refine r_al0 (q := 10) C dX9_carry_9 rfl ?_
    refine r_il3 (q := 11) C dX9_carry_10 rfl ?_
    refine r_callVb (q := 14) C (c_X9_isEdition hM hI (by omega)) m_X9_112 (by assumption) (by omega) dX9_carry_11 rfl rfl (by decide) (by decide) (Nat.le_of_ble_eq_true rfl) (fun br11 => ?_) (fun br11 => ?_)
    · refine r_ifne_t (q := 19) C (by decide) (by omega) dX9_carry_14 (by decide) ?_
      have hs := fCarry.eq_1 (σ (mC + 1)) z v w
      rw [if_pos ⟨br3, br11⟩] at hs
      obtain ⟨eN, bN, rfl, rfl, heN, heN6, hbN1, hbN2, hbN9⟩ := isBr_n hI br3
      have hIE := oI_b hI heN
      have hIb := hIE.1.2.2.2.2 bN hbN1 hbN2
      obtain ⟨kN, rfl, hkN, hkN6⟩ := isEd_n hI br11
      simp only [Int.toNat_natCast] at hs
      refine r_al0 (q := 20) C dX9_carry_19 rfl ?_
      refine r_il1 (q := 21) C dX9_carry_20 rfl ?_
      refine r_il3 (q := 22) C dX9_carry_21 rfl ?_
      refine r_callVb (q := 25) C (c_X9_areOfOneWork hM hI heN hkN) m_X9_155 (by assumption) (by omega) dX9_carry_22 rfl rfl (by decide) (by decide) (Nat.le_of_ble_eq_true rfl) (fun br22 => ?_) (fun br22 => ?_)
      · refine r_ifeq_f (q := 38) (q2 := 28) C (by decide) (by omega) dX9_carry_25 (by decide) rfl ?_
        refine r_al0 (q := 29) C dX9_carry_28 rfl ?_
        refine r_il1 (q := 30) C dX9_carry_29 rfl ?_
        refine r_il2 (q := 31) C dX9_carry_30 rfl ?_
        refine r_il3 (q := 32) C dX9_carry_31 rfl ?_
        refine r_callV1 (q := 35) C (c_X9_carried (eN := eN) (bN := bN) (kN := kN) hM hI heN ⟨hbN1, hbN2⟩ hkN) m_X9_158 (by assumption) (by omega) dX9_carry_32 rfl rfl (by decide) (by decide) (Nat.le_of_ble_eq_true rfl) ?_
        refine r_goto (q := 40) C dX9_carry_35 (by decide) ?_
        exact r_iret C hr dX9_carry_40 (by decide) (by decide) ⟨by rw [hs, if_pos br22]; rfl, rfl, rfl⟩
      · refine r_ifeq_t (q := 38) C (by decide) (by omega) dX9_carry_25 (by decide) ?_
        refine r_bipush (q := 40) C dX9_carry_38 (by decide) rfl ?_
        exact r_iret C hr dX9_carry_40 (by decide) (by decide) ⟨by rw [hs, if_neg br22], rfl, rfl⟩
    · refine r_ifne_f (q := 19) (q2 := 17) C (by decide) (by omega) dX9_carry_14 (by decide) rfl ?_
      refine r_iconst (q := 18) C dX9_carry_17 rfl ?_
      exact r_iret C hr dX9_carry_18 (by decide) (by decide) ⟨by rw [fCarry, if_neg (fun hc => br11 hc.2)], rfl, rfl⟩
  · refine r_ifeq_t (q := 17) C (by decide) (by omega) dX9_carry_6 (by decide) ?_
    refine r_iconst (q := 18) C dX9_carry_17 rfl ?_
    exact r_iret C hr dX9_carry_18 (by decide) (by decide) ⟨by rw [fCarry, if_neg (fun hc => br3 hc.1)], rfl, rfl⟩
set_option maxRecDepth 20000 in
set_option maxHeartbeats 8000000 in
theorem c_X9_ofEdition {T : oT} {σ : oM} {mC : Nat} (hM : oMm T mC) {Bd : Int} (hI : oI Bd (σ (mC + 1))) {z v : Int} (hz : o_r z) (hv : o_r v) : MS yX9_ofEdition cX9_ofEdition 5 (some FieldType.int) 3 0 0 66 [og mC, oi z, oi v] T σ (oP1 (oi (fOfEd (σ (mC + 1)) z v)) T σ) := by
  have hMc := hM
  obtain ⟨hM0, hMr0, hMr1, hMr2, hMr3, hMr8, hMr9, hMr10, hMr11, hMr13, hMr14, hMr15, hMr16, hMr17, hMr18, hMr19, hMr20, hMk1, hMk2, hMk3, hMk4, hMk5, hMk6, hMk7, hMk8, hMk9, hMk10, hMk11, hMk12, hMk13, hMk14, hMk15, hMk16, hMT⟩ := hMc
  have hI0 := hI.2.1
  have hI1 := hI.2.2.1
  have hI2 := hI.2.2.2.1
  have hIn := oI_n hI
  have hIB := hI.1
  refine o_met (by decide +kernel) (Nat.le_of_ble_eq_true rfl) (fun p l ee s m args below meth c G b C hr hn => ?_)
  have C : oCx p s m args meth c G b RX9 cX9_ofEdition 5 := C
  show oW p l ee ({ frames := 3, cells := 0, slots := 0, locals := 66 } : Room) s m args below meth c G b 5 0 0 (MQ below (o_Qc G b (oP1 (oi (fOfEd (σ (mC + 1)) z v)) T σ)) args s 0 0 (fun q => b ≤ q)) T σ 0 [some (og mC), some (oi z), some (oi v), none, none] []
  refine r_al0 (q := 1) C dX9_ofEdition_0 rfl ?_
  refine r_il1 (q := 2) C dX9_ofEdition_1 rfl ?_
  refine r_callVb (q := 5) C (c_X9_isEdition hM hI (by omega)) m_X9_112 (by assumption) (by omega) dX9_ofEdition_2 rfl rfl (by decide) (by decide) (Nat.le_of_ble_eq_true rfl) (fun br2 => ?_) (fun br2 => ?_)
  · refine r_ifne_t (q := 10) C (by decide) (by omega) dX9_ofEdition_5 (by decide) ?_
    have hs := fOfEd.eq_1 (σ (mC + 1)) z v
    rw [if_pos br2] at hs
    obtain ⟨eN, rfl, heN, heN6⟩ := isEd_n hI br2
    have hIE := oI_b hI heN
    simp only [Int.toNat_natCast] at hs
    refine r_iconst (q := 11) C dX9_ofEdition_10 rfl ?_
    refine r_is3 (q := 12) C dX9_ofEdition_11 rfl (by decide) ?_
    refine r_il2 (q := 13) C dX9_ofEdition_12 rfl ?_
    rcases (show v = 0 ∨ v = 1 ∨ v = 2 ∨ v = 3 ∨ v = 4 ∨ v = 5 ∨ v = 6 ∨ (v < 0 ∨ 6 < v) by omega) with hw1 | hw1 | hw1 | hw1 | hw1 | hw1 | hw1 | hw1
    ·
      refine r_tsin (q := 56) (j := 0) C dX9_ofEdition_13 (by omega) (by omega) (by decide) rfl (by decide) ?_
      refine r_al0 (q := 57) C dX9_ofEdition_56 rfl ?_
      refine r_getR (q := 60) C f_X9_9 dX9_ofEdition_57 rfl rfl (by assumption) (by assumption) (by omega) ?_
      refine r_il1 (q := 61) C dX9_ofEdition_60 rfl ?_
      refine r_il2 (q := 62) C dX9_ofEdition_61 rfl ?_
      refine r_callS1 (q := 65) C (c_X9_at) m_X9_105 dX9_ofEdition_62 rfl rfl (by decide) (by decide) (Nat.le_of_ble_eq_true rfl) ?_
      refine r_iald (q := 66) C ((177 + 813 * eN)) dX9_ofEdition_65 rfl (by assumption) (by omega) (by omega) (by omega) (by decide) ?_
      exact r_iret C hr dX9_ofEdition_66 (by decide) (by decide) ⟨by rw [hs, if_pos hw1], rfl, rfl⟩
    ·
      refine r_tsin (q := 56) (j := 1) C dX9_ofEdition_13 (by omega) (by omega) (by decide) rfl (by decide) ?_
      refine r_al0 (q := 57) C dX9_ofEdition_56 rfl ?_
      refine r_getR (q := 60) C f_X9_9 dX9_ofEdition_57 rfl rfl (by assumption) (by assumption) (by omega) ?_
      refine r_il1 (q := 61) C dX9_ofEdition_60 rfl ?_
      refine r_il2 (q := 62) C dX9_ofEdition_61 rfl ?_
      refine r_callS1 (q := 65) C (c_X9_at) m_X9_105 dX9_ofEdition_62 rfl rfl (by decide) (by decide) (Nat.le_of_ble_eq_true rfl) ?_
      refine r_iald (q := 66) C ((178 + 813 * eN)) dX9_ofEdition_65 rfl (by assumption) (by omega) (by omega) (by omega) (by decide) ?_
      exact r_iret C hr dX9_ofEdition_66 (by decide) (by decide) ⟨by rw [hs, if_neg (by omega), if_pos hw1], rfl, rfl⟩
    ·
      refine r_tsin (q := 56) (j := 2) C dX9_ofEdition_13 (by omega) (by omega) (by decide) rfl (by decide) ?_
      refine r_al0 (q := 57) C dX9_ofEdition_56 rfl ?_
      refine r_getR (q := 60) C f_X9_9 dX9_ofEdition_57 rfl rfl (by assumption) (by assumption) (by omega) ?_
      refine r_il1 (q := 61) C dX9_ofEdition_60 rfl ?_
      refine r_il2 (q := 62) C dX9_ofEdition_61 rfl ?_
      refine r_callS1 (q := 65) C (c_X9_at) m_X9_105 dX9_ofEdition_62 rfl rfl (by decide) (by decide) (Nat.le_of_ble_eq_true rfl) ?_
      refine r_iald (q := 66) C ((179 + 813 * eN)) dX9_ofEdition_65 rfl (by assumption) (by omega) (by omega) (by omega) (by decide) ?_
      exact r_iret C hr dX9_ofEdition_66 (by decide) (by decide) ⟨by rw [hs, if_neg (by omega), if_neg (by omega), if_pos hw1], rfl, rfl⟩
    ·
      refine r_tsin (q := 67) (j := 3) C dX9_ofEdition_13 (by omega) (by omega) (by decide) rfl (by decide) ?_
      refine r_iconst (q := 68) C dX9_ofEdition_67 rfl ?_
      refine r_is4 (q := 70) C dX9_ofEdition_68 rfl (by decide) ?_
      have lpA : ∀ (n : Nat) (jx : Nat), nEd (σ (mC + 1)) - jx < n → (jx ≤ nEd (σ (mC + 1))) → oW p l ee ({ frames := 3, cells := 0, slots := 0, locals := 66 } : Room) s m args below meth c G b 5 0 0 (MQ below (o_Qc G b (oP1 (oi (fOfEd (σ (mC + 1)) (eN : Int) v)) T σ)) args s 0 0 (fun q => b ≤ q)) T σ 70 [some (og mC), some (oi ((eN : Nat) : Int)), some (oi v), some (oi (sumF (fun jx => if (σ (mC + 1)) (179 + 813 * jx) = (eN : Int) then 1 else 0) jx)), some (oi ((jx : Nat) : Int))] [] := by
        intro n
        induction n with
        | zero =>
          intro jx hms
          exact absurd hms (Nat.not_lt_zero _)
        | succ n ih =>
          intro jx hms h1
          refine r_il4 (q := 72) C dX9_ofEdition_70 rfl ?_
          refine r_al0 (q := 73) C dX9_ofEdition_72 rfl ?_
          refine r_getR (q := 76) C f_X9_9 dX9_ofEdition_73 rfl rfl (by assumption) (by assumption) (by omega) ?_
          refine r_iconst (q := 77) C dX9_ofEdition_76 rfl ?_
          refine r_iald (q := 78) C (0) dX9_ofEdition_77 rfl (by assumption) (by omega) (by omega) (by omega) (by decide) ?_
          refine r_icge (q := 110) (q2 := 81) C (by omega) (by omega) dX9_ofEdition_78 (by decide) rfl (fun br78 => ?_) (fun br78 => ?_)
          · refine r_il3 (q := 111) C dX9_ofEdition_110 rfl ?_
            exact r_iret C hr dX9_ofEdition_111 (by decide) (by decide) ⟨by rw [hs, if_neg (by omega), if_neg (by omega), if_neg (by omega), if_pos hw1, show jx = nEd (σ (mC + 1)) by omega], rfl, rfl⟩
          · refine r_il3 (q := 82) C dX9_ofEdition_81 rfl ?_
            refine r_al0 (q := 83) C dX9_ofEdition_82 rfl ?_
            refine r_getR (q := 86) C f_X9_9 dX9_ofEdition_83 rfl rfl (by assumption) (by assumption) (by omega) ?_
            refine r_il4 (q := 88) C dX9_ofEdition_86 rfl ?_
            refine r_iconst (q := 89) C dX9_ofEdition_88 rfl ?_
            refine r_callS1 (q := 92) C (c_X9_at) m_X9_105 dX9_ofEdition_89 rfl rfl (by decide) (by decide) (Nat.le_of_ble_eq_true rfl) ?_
            have hq := (oI_b hI (ex := jx) (by omega)).1.2.2.1
            refine r_iald (q := 93) C ((179 + 813 * jx)) dX9_ofEdition_92 rfl (by assumption) (by omega) (by omega) (by omega) (by decide) ?_
            refine r_il1 (q := 94) C dX9_ofEdition_93 rfl ?_
            refine r_icne (q := 101) (q2 := 97) C (by omega) (by omega) dX9_ofEdition_94 (by decide) rfl (fun br94 => ?_) (fun br94 => ?_)
            · refine r_iconst (q := 102) C dX9_ofEdition_101 rfl ?_
              refine r_iadd (q := 103) C dX9_ofEdition_102 rfl ?_
              refine r_is3 (q := 104) C dX9_ofEdition_103 rfl (by decide) ?_
              refine r_iinc4 (q := 107) C dX9_ofEdition_104 rfl (by decide) ?_
              refine r_goto (q := 70) C dX9_ofEdition_107 (by decide) ?_
              have e1 : sumF (fun jx => if (σ (mC + 1)) (179 + 813 * jx) = (eN : Int) then 1 else 0) jx + 0 = sumF (fun jx => if (σ (mC + 1)) (179 + 813 * jx) = (eN : Int) then 1 else 0) (jx + 1) := by rw [sumF, if_neg br94]
              rw [e1]
              exact ih (jx + 1) (by omega) (by omega)
            · refine r_iconst (q := 98) C dX9_ofEdition_97 rfl ?_
              refine r_goto (q := 102) C dX9_ofEdition_98 (by decide) ?_
              refine r_iadd (q := 103) C dX9_ofEdition_102 rfl ?_
              refine r_is3 (q := 104) C dX9_ofEdition_103 rfl (by decide) ?_
              refine r_iinc4 (q := 107) C dX9_ofEdition_104 rfl (by decide) ?_
              refine r_goto (q := 70) C dX9_ofEdition_107 (by decide) ?_
              have e1 : sumF (fun jx => if (σ (mC + 1)) (179 + 813 * jx) = (eN : Int) then 1 else 0) jx + 1 = sumF (fun jx => if (σ (mC + 1)) (179 + 813 * jx) = (eN : Int) then 1 else 0) (jx + 1) := by rw [sumF, if_pos br94]
              rw [e1]
              exact ih (jx + 1) (by omega) (by omega)
      exact lpA _ 0 (Nat.lt_succ_self _) (by omega)
    ·
      refine r_tsin (q := 112) (j := 4) C dX9_ofEdition_13 (by omega) (by omega) (by decide) rfl (by decide) ?_
      refine r_al0 (q := 113) C dX9_ofEdition_112 rfl ?_
      refine r_il1 (q := 114) C dX9_ofEdition_113 rfl ?_
      refine r_callV1 (q := 117) C (c_X9_boughtAll hM (by omega)) m_X9_139 (by assumption) (by omega) dX9_ofEdition_114 rfl rfl (by decide) (by decide) (Nat.le_of_ble_eq_true rfl) ?_
      exact r_iret C hr dX9_ofEdition_117 (by decide) (by decide) ⟨by rw [hs, if_neg (by omega), if_neg (by omega), if_neg (by omega), if_neg (by omega), if_pos hw1]; rfl, rfl, rfl⟩
    ·
      refine r_tsin (q := 118) (j := 5) C dX9_ofEdition_13 (by omega) (by omega) (by decide) rfl (by decide) ?_
      refine r_al0 (q := 119) C dX9_ofEdition_118 rfl ?_
      refine r_il1 (q := 120) C dX9_ofEdition_119 rfl ?_
      refine r_callV1 (q := 123) C (c_X9_bowingsOf hM hI (by omega)) m_X9_149 (by assumption) (by omega) dX9_ofEdition_120 rfl rfl (by decide) (by decide) (Nat.le_of_ble_eq_true rfl) ?_
      exact r_iret C hr dX9_ofEdition_123 (by decide) (by decide) ⟨by rw [hs, if_neg (by omega), if_neg (by omega), if_neg (by omega), if_neg (by omega), if_neg (by omega), if_pos hw1, ← sumF_sw]; rfl, rfl, rfl⟩
    ·
      refine r_tsin (q := 124) (j := 6) C dX9_ofEdition_13 (by omega) (by omega) (by decide) rfl (by decide) ?_
      refine r_iconst (q := 125) C dX9_ofEdition_124 rfl ?_
      refine r_is4 (q := 127) C dX9_ofEdition_125 rfl (by decide) ?_
      have lpB : ∀ (n : Nat) (jx : Nat), nBr (σ (mC + 1)) eN + 1 - jx < n → (1 ≤ jx ∧ jx ≤ nBr (σ (mC + 1)) eN + 1) → oW p l ee ({ frames := 3, cells := 0, slots := 0, locals := 66 } : Room) s m args below meth c G b 5 0 0 (MQ below (o_Qc G b (oP1 (oi (fOfEd (σ (mC + 1)) (eN : Int) v)) T σ)) args s 0 0 (fun q => b ≤ q)) T σ 127 [some (og mC), some (oi ((eN : Nat) : Int)), some (oi v), some (oi (sumF (fun ix => nz ((σ (mC + 1)) (193 + 813 * eN + 8 * (ix + 1)))) (jx - 1))), some (oi ((jx : Nat) : Int))] [] := by
        intro n
        induction n with
        | zero =>
          intro jx hms
          exact absurd hms (Nat.not_lt_zero _)
        | succ n ih =>
          intro jx hms h1
          refine r_il4 (q := 129) C dX9_ofEdition_127 rfl ?_
          refine r_al0 (q := 130) C dX9_ofEdition_129 rfl ?_
          refine r_il1 (q := 131) C dX9_ofEdition_130 rfl ?_
          refine r_callV1 (q := 134) C (c_X9_bars hM (by omega)) m_X9_116 (by assumption) (by omega) dX9_ofEdition_131 rfl rfl (by decide) (by decide) (Nat.le_of_ble_eq_true rfl) ?_
          rw [← hIE.2.1]
          refine r_icgt (q := 167) (q2 := 137) C (by omega) (by omega) dX9_ofEdition_134 (by decide) rfl (fun br134 => ?_) (fun br134 => ?_)
          · refine r_il3 (q := 168) C dX9_ofEdition_167 rfl ?_
            exact r_iret C hr dX9_ofEdition_168 (by decide) (by decide) ⟨by rw [hs, if_neg (by omega), if_neg (by omega), if_neg (by omega), if_neg (by omega), if_neg (by omega), if_neg (by omega), if_pos hw1, show jx - 1 = nBr (σ (mC + 1)) eN by omega], rfl, rfl⟩
          · refine r_il3 (q := 138) C dX9_ofEdition_137 rfl ?_
            refine r_al0 (q := 139) C dX9_ofEdition_138 rfl ?_
            refine r_getR (q := 142) C f_X9_9 dX9_ofEdition_139 rfl rfl (by assumption) (by assumption) (by omega) ?_
            refine r_il1 (q := 143) C dX9_ofEdition_142 rfl ?_
            refine r_il4 (q := 145) C dX9_ofEdition_143 rfl ?_
            refine r_callS1 (q := 148) C (c_X9_placeOf) m_X9_132 dX9_ofEdition_145 rfl rfl (by decide) (by decide) (Nat.le_of_ble_eq_true rfl) ?_
            refine r_iconst (q := 149) C dX9_ofEdition_148 rfl ?_
            refine r_iadd (q := 150) C dX9_ofEdition_149 rfl ?_
            have hq := (hIE.1.2.2.2.2 jx (by omega) (by omega)).2.2.2.1
            refine r_iald (q := 151) C ((193 + 813 * eN + 8 * jx)) dX9_ofEdition_150 rfl (by assumption) (by omega) (by omega) (by omega) (by decide) ?_
            refine r_ifle (q := 158) (q2 := 154) C (by omega) dX9_ofEdition_151 (by decide) rfl (fun br151 => ?_) (fun br151 => ?_)
            · refine r_iconst (q := 159) C dX9_ofEdition_158 rfl ?_
              refine r_iadd (q := 160) C dX9_ofEdition_159 rfl ?_
              refine r_is3 (q := 161) C dX9_ofEdition_160 rfl (by decide) ?_
              refine r_iinc4 (q := 164) C dX9_ofEdition_161 rfl (by decide) ?_
              refine r_goto (q := 127) C dX9_ofEdition_164 (by decide) ?_
              have e1 : sumF (fun ix => nz ((σ (mC + 1)) (193 + 813 * eN + 8 * (ix + 1)))) (jx - 1) + 0 = sumF (fun ix => nz ((σ (mC + 1)) (193 + 813 * eN + 8 * (ix + 1)))) (jx + 1 - 1) := by rw [show jx + 1 - 1 = (jx - 1) + 1 by omega, sumF, show jx - 1 + 1 = jx by omega, nz, if_pos (by omega)]
              rw [e1]
              exact ih (jx + 1) (by omega) (by omega)
            · refine r_iconst (q := 155) C dX9_ofEdition_154 rfl ?_
              refine r_goto (q := 159) C dX9_ofEdition_155 (by decide) ?_
              refine r_iadd (q := 160) C dX9_ofEdition_159 rfl ?_
              refine r_is3 (q := 161) C dX9_ofEdition_160 rfl (by decide) ?_
              refine r_iinc4 (q := 164) C dX9_ofEdition_161 rfl (by decide) ?_
              refine r_goto (q := 127) C dX9_ofEdition_164 (by decide) ?_
              have e1 : sumF (fun ix => nz ((σ (mC + 1)) (193 + 813 * eN + 8 * (ix + 1)))) (jx - 1) + 1 = sumF (fun ix => nz ((σ (mC + 1)) (193 + 813 * eN + 8 * (ix + 1)))) (jx + 1 - 1) := by rw [show jx + 1 - 1 = (jx - 1) + 1 by omega, sumF, show jx - 1 + 1 = jx by omega, nz, if_neg (by omega)]
              rw [e1]
              exact ih (jx + 1) (by omega) (by omega)
      exact lpB _ 1 (Nat.lt_succ_self _) (by omega)
    ·
      refine r_tsout (q := 169) C dX9_ofEdition_13 (by omega) (by omega) (by decide) ?_
      refine r_iconst (q := 170) C dX9_ofEdition_169 rfl ?_
      exact r_iret C hr dX9_ofEdition_170 (by decide) (by decide) ⟨by rw [hs, if_neg (by omega), if_neg (by omega), if_neg (by omega), if_neg (by omega), if_neg (by omega), if_neg (by omega), if_neg (by omega)], rfl, rfl⟩
  · refine r_ifne_f (q := 10) (q2 := 8) C (by decide) (by omega) dX9_ofEdition_5 (by decide) rfl ?_
    refine r_iconst (q := 9) C dX9_ofEdition_8 rfl ?_
    exact r_iret C hr dX9_ofEdition_9 (by decide) (by decide) ⟨by rw [fOfEd, if_neg br2], rfl, rfl⟩
set_option maxRecDepth 20000 in
set_option maxHeartbeats 8000000 in
theorem c_X9_loan {T : oT} {σ : oM} {mC : Nat} (hM : oMm T mC) {Bd : Int} (hI : oI Bd (σ (mC + 1))) {z v : Int} (hz : o_r z) (hv : o_r v) : MS yX9_loan cX9_loan 3 (some FieldType.int) 2 0 0 42 [og mC, oi z, oi v] T σ (oP1 (oi (fLoan (σ (mC + 1)) z v)) T σ) := by
  have hMc := hM
  obtain ⟨hM0, hMr0, hMr1, hMr2, hMr3, hMr8, hMr9, hMr10, hMr11, hMr13, hMr14, hMr15, hMr16, hMr17, hMr18, hMr19, hMr20, hMk1, hMk2, hMk3, hMk4, hMk5, hMk6, hMk7, hMk8, hMk9, hMk10, hMk11, hMk12, hMk13, hMk14, hMk15, hMk16, hMT⟩ := hMc
  have hI0 := hI.2.1
  have hI1 := hI.2.2.1
  have hI2 := hI.2.2.2.1
  have hIn := oI_n hI
  have hIB := hI.1
  refine o_met (by decide +kernel) (Nat.le_of_ble_eq_true rfl) (fun p l ee s m args below meth c G b C hr hn => ?_)
  have C : oCx p s m args meth c G b RX9 cX9_loan 3 := C
  show oW p l ee ({ frames := 2, cells := 0, slots := 0, locals := 42 } : Room) s m args below meth c G b 3 0 0 (MQ below (o_Qc G b (oP1 (oi (fLoan (σ (mC + 1)) z v)) T σ)) args s 0 0 (fun q => b ≤ q)) T σ 0 [some (og mC), some (oi z), some (oi v)] []
  refine r_il1 (q := 1) C dX9_loan_0 rfl ?_
  refine r_iconst (q := 2) C dX9_loan_1 rfl ?_
  refine r_al0 (q := 3) C dX9_loan_2 rfl ?_
  refine r_getR (q := 6) C f_X9_9 dX9_loan_3 rfl rfl (by assumption) (by assumption) (by omega) ?_
  refine r_iconst (q := 7) C dX9_loan_6 rfl ?_
  refine r_iald (q := 8) C (1) dX9_loan_7 rfl (by assumption) (by omega) (by omega) (by omega) (by decide) ?_
  refine r_iconst (q := 9) C dX9_loan_8 rfl ?_
  refine r_isub (q := 10) C dX9_loan_9 rfl ?_
  refine r_callSb (q := 13) C (c_X9_in (hi := (σ (mC + 1)) 1 - 1) hz (by omega) (by omega)) m_X9_108 dX9_loan_10 rfl rfl (by decide) (by decide) (Nat.le_of_ble_eq_true rfl) (fun br10 => ?_) (fun br10 => ?_)
  · refine r_ifeq_f (q := 26) (q2 := 16) C (by decide) (by omega) dX9_loan_13 (by decide) rfl ?_
    refine r_il2 (q := 17) C dX9_loan_16 rfl ?_
    refine r_iconst (q := 18) C dX9_loan_17 rfl ?_
    refine r_bipush (q := 20) C dX9_loan_18 (by decide) rfl ?_
    refine r_callSb (q := 23) C (c_X9_in hv (by omega) (by omega)) m_X9_108 dX9_loan_20 rfl rfl (by decide) (by decide) (Nat.le_of_ble_eq_true rfl) (fun br20 => ?_) (fun br20 => ?_)
    · refine r_ifne_t (q := 28) C (by decide) (by omega) dX9_loan_23 (by decide) ?_
      have hs := fLoan.eq_1 (σ (mC + 1)) z v
      rw [if_pos br10] at hs
      obtain ⟨lN, rfl, hlN⟩ : ∃ lN : Nat, z = (lN : Int) ∧ lN < nLn (σ (mC + 1)) := ⟨z.toNat, by omega, by omega⟩
      rw [Int.toNat_natCast] at hs
      refine r_il2 (q := 29) C dX9_loan_28 rfl ?_
      refine r_bipush (q := 31) C dX9_loan_29 (by decide) rfl ?_
      refine r_icne (q := 50) (q2 := 34) C (by omega) (by omega) dX9_loan_31 (by decide) rfl (fun br31 => ?_) (fun br31 => ?_)
      · refine r_al0 (q := 51) C dX9_loan_50 rfl ?_
        refine r_getR (q := 54) C f_X9_9 dX9_loan_51 rfl rfl (by assumption) (by assumption) (by omega) ?_
        refine r_il1 (q := 55) C dX9_loan_54 rfl ?_
        refine r_il2 (q := 56) C dX9_loan_55 rfl ?_
        refine r_callS1 (q := 59) C (c_X9_loanAt) m_X9_192 dX9_loan_56 rfl rfl (by decide) (by decide) (Nat.le_of_ble_eq_true rfl) ?_
        refine r_iald (q := 60) C ((17 + 8 * lN + v.toNat)) dX9_loan_59 rfl (by assumption) (by omega) (by omega) (by omega) (by decide) ?_
        refine r_iret C hr dX9_loan_60 (by decide) (by decide) ?_
        refine ⟨congrArg (fun q => some (oi q)) ?_, rfl, rfl⟩
        rw [hs]
        rcases (show v = 0 ∨ v = 1 ∨ v = 2 ∨ v = 3 ∨ v = 4 ∨ v = 5 ∨ v = 6 by omega) with rfl | rfl | rfl | rfl | rfl | rfl | rfl
        · rw [if_pos rfl]
          exact congrArg (σ (mC + 1)) (by omega)
        · rw [if_neg (by decide), if_pos rfl]
          exact congrArg (σ (mC + 1)) (by omega)
        · rw [if_neg (by decide), if_neg (by decide), if_pos rfl]
          exact congrArg (σ (mC + 1)) (by omega)
        · rw [if_neg (by decide), if_neg (by decide), if_neg (by decide), if_pos rfl]
          exact congrArg (σ (mC + 1)) (by omega)
        · rw [if_neg (by decide), if_neg (by decide), if_neg (by decide), if_neg (by decide), if_pos rfl]
          exact congrArg (σ (mC + 1)) (by omega)
        · rw [if_neg (by decide), if_neg (by decide), if_neg (by decide), if_neg (by decide), if_neg (by decide), if_pos rfl]
          exact congrArg (σ (mC + 1)) (by omega)
        · rw [if_neg (by decide), if_neg (by decide), if_neg (by decide), if_neg (by decide), if_neg (by decide), if_neg (by decide), if_pos rfl]
          exact congrArg (σ (mC + 1)) (by omega)
      · refine r_al0 (q := 35) C dX9_loan_34 rfl ?_
        refine r_il1 (q := 36) C dX9_loan_35 rfl ?_
        refine r_callVb (q := 39) C (c_X9_isOverdue (lN := lN) hM hI hlN) m_X9_195 (by assumption) (by omega) dX9_loan_36 rfl rfl (by decide) (by decide) (Nat.le_of_ble_eq_true rfl) (fun br36 => ?_) (fun br36 => ?_)
        · refine r_ifeq_f (q := 46) (q2 := 42) C (by decide) (by omega) dX9_loan_39 (by decide) rfl ?_
          refine r_iconst (q := 43) C dX9_loan_42 rfl ?_
          refine r_goto (q := 60) C dX9_loan_43 (by decide) ?_
          exact r_iret C hr dX9_loan_60 (by decide) (by decide) ⟨by rw [hs, if_neg (by omega), if_neg (by omega), if_neg (by omega), if_neg (by omega), if_neg (by omega), if_neg (by omega), if_neg (by omega), if_pos br31, if_pos br36], rfl, rfl⟩
        · refine r_ifeq_t (q := 46) C (by decide) (by omega) dX9_loan_39 (by decide) ?_
          refine r_iconst (q := 47) C dX9_loan_46 rfl ?_
          refine r_goto (q := 60) C dX9_loan_47 (by decide) ?_
          exact r_iret C hr dX9_loan_60 (by decide) (by decide) ⟨by rw [hs, if_neg (by omega), if_neg (by omega), if_neg (by omega), if_neg (by omega), if_neg (by omega), if_neg (by omega), if_neg (by omega), if_pos br31, if_neg br36], rfl, rfl⟩
    · refine r_ifne_f (q := 28) (q2 := 26) C (by decide) (by omega) dX9_loan_23 (by decide) rfl ?_
      refine r_iconst (q := 27) C dX9_loan_26 rfl ?_
      exact r_iret C hr dX9_loan_27 (by decide) (by decide) ⟨by rw [fLoan, if_pos br10, if_neg (by omega), if_neg (by omega), if_neg (by omega), if_neg (by omega), if_neg (by omega), if_neg (by omega), if_neg (by omega), if_neg (by omega)], rfl, rfl⟩
  · refine r_ifeq_t (q := 26) C (by decide) (by omega) dX9_loan_13 (by decide) ?_
    refine r_iconst (q := 27) C dX9_loan_26 rfl ?_
    exact r_iret C hr dX9_loan_27 (by decide) (by decide) ⟨by rw [fLoan, if_neg br10], rfl, rfl⟩
set_option maxRecDepth 20000 in
set_option maxHeartbeats 8000000 in
theorem c_X9_overdue {T : oT} {σ : oM} {mC : Nat} (hM : oMm T mC) {Bd : Int} (hI : oI Bd (σ (mC + 1))) {z : Int} (hz : o_r z) : MS yX9_overdue cX9_overdue 5 (some FieldType.int) 2 0 0 42 [og mC, oi z] T σ (oP1 (oi (fOverdue (σ (mC + 1)) z)) T σ) := by
  have hMc := hM
  obtain ⟨hM0, hMr0, hMr1, hMr2, hMr3, hMr8, hMr9, hMr10, hMr11, hMr13, hMr14, hMr15, hMr16, hMr17, hMr18, hMr19, hMr20, hMk1, hMk2, hMk3, hMk4, hMk5, hMk6, hMk7, hMk8, hMk9, hMk10, hMk11, hMk12, hMk13, hMk14, hMk15, hMk16, hMT⟩ := hMc
  have hI0 := hI.2.1
  have hI1 := hI.2.2.1
  have hI2 := hI.2.2.2.1
  have hIn := oI_n hI
  have hIB := hI.1
  refine o_met (by decide +kernel) (Nat.le_of_ble_eq_true rfl) (fun p l ee s m args below meth c G b C hr hn => ?_)
  have C : oCx p s m args meth c G b RX9 cX9_overdue 5 := C
  show oW p l ee ({ frames := 2, cells := 0, slots := 0, locals := 42 } : Room) s m args below meth c G b 5 0 0 (MQ below (o_Qc G b (oP1 (oi (fOverdue (σ (mC + 1)) z)) T σ)) args s 0 0 (fun q => b ≤ q)) T σ 0 [some (og mC), some (oi z), none, none, none] []
  refine r_il1 (q := 1) C dX9_overdue_0 rfl ?_
  refine r_ifge (q := 6) (q2 := 4) C (by omega) dX9_overdue_1 (by decide) rfl (fun br1 => ?_) (fun br1 => ?_)
  · have hs := fOverdue.eq_1 (σ (mC + 1)) z
    rw [if_neg (by omega)] at hs
    have lp : ∀ (n : Nat) (jx : Nat) (w3 w4 : Option oV), nLn (σ (mC + 1)) - jx < n → (jx ≤ nLn (σ (mC + 1))) → (findF (fun ix => ovA (σ (mC + 1)) ix && decide (ahF (fun jx => (σ (mC + 1)) (21 + 8 * jx)) (fun jx => (σ (mC + 1)) (22 + 8 * jx)) ((σ (mC + 1)) 2) (nLn (σ (mC + 1))) ix = z)) (nLn (σ (mC + 1))) 0 = findF (fun ix => ovA (σ (mC + 1)) ix && decide (ahF (fun jx => (σ (mC + 1)) (21 + 8 * jx)) (fun jx => (σ (mC + 1)) (22 + 8 * jx)) ((σ (mC + 1)) 2) (nLn (σ (mC + 1))) ix = z)) (nLn (σ (mC + 1)) - jx) jx) → oW p l ee ({ frames := 2, cells := 0, slots := 0, locals := 42 } : Room) s m args below meth c G b 5 0 0 (MQ below (o_Qc G b (oP1 (oi (fOverdue (σ (mC + 1)) z)) T σ)) args s 0 0 (fun q => b ≤ q)) T σ 8 [some (og mC), some (oi z), some (oi ((jx : Nat) : Int)), w3, w4] [] := by
      intro n
      induction n with
      | zero =>
        intro jx w3 w4 hms
        exact absurd hms (Nat.not_lt_zero _)
      | succ n ih =>
        intro jx w3 w4 hms h1 h2
        refine r_il2 (q := 9) C dX9_overdue_8 rfl ?_
        refine r_al0 (q := 10) C dX9_overdue_9 rfl ?_
        refine r_getR (q := 13) C f_X9_9 dX9_overdue_10 rfl rfl (by assumption) (by assumption) (by omega) ?_
        refine r_iconst (q := 14) C dX9_overdue_13 rfl ?_
        refine r_iald (q := 15) C (1) dX9_overdue_14 rfl (by assumption) (by omega) (by omega) (by omega) (by decide) ?_
        refine r_icge (q := 135) (q2 := 18) C (by omega) (by omega) dX9_overdue_15 (by decide) rfl (fun br15 => ?_) (fun br15 => ?_)
        · refine r_bipush (q := 137) C dX9_overdue_135 (by decide) rfl ?_
          exact r_iret C hr dX9_overdue_137 (by decide) (by decide) ⟨by rw [hs, h2, show nLn (σ (mC + 1)) - jx = 0 by omega]; rfl, rfl, rfl⟩
        · have hqj := hI.2.2.2.2.2.2.1 jx (by omega)
          refine r_al0 (q := 19) C dX9_overdue_18 rfl ?_
          refine r_il2 (q := 20) C dX9_overdue_19 rfl ?_
          refine r_callVb (q := 23) C (c_X9_isOverdue (lN := jx) hM hI (by omega)) m_X9_195 (by assumption) (by omega) dX9_overdue_20 rfl rfl (by decide) (by decide) (Nat.le_of_ble_eq_true rfl) (fun br20 => ?_) (fun br20 => ?_)
          · refine r_ifne_t (q := 29) C (by decide) (by omega) dX9_overdue_23 (by decide) ?_
            refine r_iconst (q := 30) C dX9_overdue_29 rfl ?_
            refine r_is3 (q := 31) C dX9_overdue_30 rfl (by decide) ?_
            refine r_iconst (q := 32) C dX9_overdue_31 rfl ?_
            refine r_is4 (q := 34) C dX9_overdue_32 rfl (by decide) ?_
            have lp2 : ∀ (n2 : Nat) (kx : Nat), nLn (σ (mC + 1)) - kx < n2 → (kx ≤ nLn (σ (mC + 1))) → oW p l ee ({ frames := 2, cells := 0, slots := 0, locals := 42 } : Room) s m args below meth c G b 5 0 0 (MQ below (o_Qc G b (oP1 (oi (fOverdue (σ (mC + 1)) z)) T σ)) args s 0 0 (fun q => b ≤ q)) T σ 34 [some (og mC), some (oi z), some (oi ((jx : Nat) : Int)), some (oi (sumF (fun kx => if ovF ((σ (mC + 1)) (21 + 8 * kx)) ((σ (mC + 1)) (22 + 8 * kx)) ((σ (mC + 1)) 2) = true ∧ ((σ (mC + 1)) (22 + 8 * kx) < (σ (mC + 1)) (22 + 8 * jx) ∨ ((σ (mC + 1)) (22 + 8 * kx) = (σ (mC + 1)) (22 + 8 * jx) ∧ kx < jx)) then 1 else 0) kx)), some (oi ((kx : Nat) : Int))] [] := by
              intro n2
              induction n2 with
              | zero =>
                intro kx hms
                exact absurd hms (Nat.not_lt_zero _)
              | succ n2 ih2 =>
                intro kx hms k1
                refine r_il4 (q := 36) C dX9_overdue_34 rfl ?_
                refine r_al0 (q := 37) C dX9_overdue_36 rfl ?_
                refine r_getR (q := 40) C f_X9_9 dX9_overdue_37 rfl rfl (by assumption) (by assumption) (by omega) ?_
                refine r_iconst (q := 41) C dX9_overdue_40 rfl ?_
                refine r_iald (q := 42) C (1) dX9_overdue_41 rfl (by assumption) (by omega) (by omega) (by omega) (by decide) ?_
                refine r_icge (q := 122) (q2 := 45) C (by omega) (by omega) dX9_overdue_42 (by decide) rfl (fun br42 => ?_) (fun br42 => ?_)
                · have hahe : sumF (fun kx => if ovF ((σ (mC + 1)) (21 + 8 * kx)) ((σ (mC + 1)) (22 + 8 * kx)) ((σ (mC + 1)) 2) = true ∧ ((σ (mC + 1)) (22 + 8 * kx) < (σ (mC + 1)) (22 + 8 * jx) ∨ ((σ (mC + 1)) (22 + 8 * kx) = (σ (mC + 1)) (22 + 8 * jx) ∧ kx < jx)) then 1 else 0) kx = ahF (fun jx => (σ (mC + 1)) (21 + 8 * jx)) (fun jx => (σ (mC + 1)) (22 + 8 * jx)) ((σ (mC + 1)) 2) (nLn (σ (mC + 1))) jx := by rw [show kx = nLn (σ (mC + 1)) by omega]; rfl
                  have hahr := ahF_r (ou := fun jx => (σ (mC + 1)) (21 + 8 * jx)) (du := fun jx => (σ (mC + 1)) (22 + 8 * jx)) (day := (σ (mC + 1)) 2) (Mn := nLn (σ (mC + 1))) (ix := jx) (by omega)
                  rw [hahe]
                  refine r_il3 (q := 123) C dX9_overdue_122 rfl ?_
                  refine r_il1 (q := 124) C dX9_overdue_123 rfl ?_
                  refine r_icne (q := 129) (q2 := 127) C (by omega) (by omega) dX9_overdue_124 (by decide) rfl (fun br124 => ?_) (fun br124 => ?_)
                  · refine r_iinc2 (q := 132) C dX9_overdue_129 rfl (by decide) ?_
                    refine r_goto (q := 8) C dX9_overdue_132 (by decide) ?_
                    exact ih (jx + 1) _ _ (by omega) (by omega) (by rw [h2, show nLn (σ (mC + 1)) - jx = (nLn (σ (mC + 1)) - (jx + 1)) + 1 by omega, findF, if_neg (by rw [Bool.and_eq_true, decide_eq_true_eq]; exact fun hc => br124 hc.2)])
                  · refine r_il2 (q := 128) C dX9_overdue_127 rfl ?_
                    exact r_iret C hr dX9_overdue_128 (by decide) (by decide) ⟨by rw [hs, h2, show nLn (σ (mC + 1)) - jx = (nLn (σ (mC + 1)) - (jx + 1)) + 1 by omega, findF, if_pos (by rw [Bool.and_eq_true, decide_eq_true_eq]; exact ⟨ovF_t.mpr br20, br124⟩)], rfl, rfl⟩
                · have hq := hI.2.2.2.2.2.2.1 kx (by omega)
                  refine r_il3 (q := 46) C dX9_overdue_45 rfl ?_
                  refine r_al0 (q := 47) C dX9_overdue_46 rfl ?_
                  refine r_il4 (q := 49) C dX9_overdue_47 rfl ?_
                  refine r_callVb (q := 52) C (c_X9_isOverdue (lN := kx) hM hI (by omega)) m_X9_195 (by assumption) (by omega) dX9_overdue_49 rfl rfl (by decide) (by decide) (Nat.le_of_ble_eq_true rfl) (fun br49 => ?_) (fun br49 => ?_)
                  · refine r_ifeq_f (q := 113) (q2 := 55) C (by decide) (by omega) dX9_overdue_52 (by decide) rfl ?_
                    refine r_al0 (q := 56) C dX9_overdue_55 rfl ?_
                    refine r_getR (q := 59) C f_X9_9 dX9_overdue_56 rfl rfl (by assumption) (by assumption) (by omega) ?_
                    refine r_il4 (q := 61) C dX9_overdue_59 rfl ?_
                    refine r_iconst (q := 62) C dX9_overdue_61 rfl ?_
                    refine r_callS1 (q := 65) C (c_X9_loanAt) m_X9_192 dX9_overdue_62 rfl rfl (by decide) (by decide) (Nat.le_of_ble_eq_true rfl) ?_
                    refine r_iald (q := 66) C ((22 + 8 * kx)) dX9_overdue_65 rfl (by assumption) (by omega) (by omega) (by omega) (by decide) ?_
                    refine r_al0 (q := 67) C dX9_overdue_66 rfl ?_
                    refine r_getR (q := 70) C f_X9_9 dX9_overdue_67 rfl rfl (by assumption) (by assumption) (by omega) ?_
                    refine r_il2 (q := 71) C dX9_overdue_70 rfl ?_
                    refine r_iconst (q := 72) C dX9_overdue_71 rfl ?_
                    refine r_callS1 (q := 75) C (c_X9_loanAt) m_X9_192 dX9_overdue_72 rfl rfl (by decide) (by decide) (Nat.le_of_ble_eq_true rfl) ?_
                    refine r_iald (q := 76) C ((22 + 8 * jx)) dX9_overdue_75 rfl (by assumption) (by omega) (by omega) (by omega) (by decide) ?_
                    refine r_iclt (q := 109) (q2 := 79) C (by omega) (by omega) dX9_overdue_76 (by decide) rfl (fun br76 => ?_) (fun br76 => ?_)
                    · refine r_iconst (q := 110) C dX9_overdue_109 rfl ?_
                      refine r_goto (q := 114) C dX9_overdue_110 (by decide) ?_
                      refine r_iadd (q := 115) C dX9_overdue_114 rfl ?_
                      refine r_is3 (q := 116) C dX9_overdue_115 rfl (by decide) ?_
                      refine r_iinc4 (q := 119) C dX9_overdue_116 rfl (by decide) ?_
                      refine r_goto (q := 34) C dX9_overdue_119 (by decide) ?_
                      have e1 : sumF (fun kx => if ovF ((σ (mC + 1)) (21 + 8 * kx)) ((σ (mC + 1)) (22 + 8 * kx)) ((σ (mC + 1)) 2) = true ∧ ((σ (mC + 1)) (22 + 8 * kx) < (σ (mC + 1)) (22 + 8 * jx) ∨ ((σ (mC + 1)) (22 + 8 * kx) = (σ (mC + 1)) (22 + 8 * jx) ∧ kx < jx)) then 1 else 0) kx + 1 = sumF (fun kx => if ovF ((σ (mC + 1)) (21 + 8 * kx)) ((σ (mC + 1)) (22 + 8 * kx)) ((σ (mC + 1)) 2) = true ∧ ((σ (mC + 1)) (22 + 8 * kx) < (σ (mC + 1)) (22 + 8 * jx) ∨ ((σ (mC + 1)) (22 + 8 * kx) = (σ (mC + 1)) (22 + 8 * jx) ∧ kx < jx)) then 1 else 0) (kx + 1) := by rw [sumF, if_pos ⟨ovF_t.mpr br49, Or.inl br76⟩]
                      rw [e1]
                      exact ih2 (kx + 1) (by omega) (by omega)
                    · refine r_al0 (q := 80) C dX9_overdue_79 rfl ?_
                      refine r_getR (q := 83) C f_X9_9 dX9_overdue_80 rfl rfl (by assumption) (by assumption) (by omega) ?_
                      refine r_il4 (q := 85) C dX9_overdue_83 rfl ?_
                      refine r_iconst (q := 86) C dX9_overdue_85 rfl ?_
                      refine r_callS1 (q := 89) C (c_X9_loanAt) m_X9_192 dX9_overdue_86 rfl rfl (by decide) (by decide) (Nat.le_of_ble_eq_true rfl) ?_
                      refine r_iald (q := 90) C ((22 + 8 * kx)) dX9_overdue_89 rfl (by assumption) (by omega) (by omega) (by omega) (by decide) ?_
                      refine r_al0 (q := 91) C dX9_overdue_90 rfl ?_
                      refine r_getR (q := 94) C f_X9_9 dX9_overdue_91 rfl rfl (by assumption) (by assumption) (by omega) ?_
                      refine r_il2 (q := 95) C dX9_overdue_94 rfl ?_
                      refine r_iconst (q := 96) C dX9_overdue_95 rfl ?_
                      refine r_callS1 (q := 99) C (c_X9_loanAt) m_X9_192 dX9_overdue_96 rfl rfl (by decide) (by decide) (Nat.le_of_ble_eq_true rfl) ?_
                      refine r_iald (q := 100) C ((22 + 8 * jx)) dX9_overdue_99 rfl (by assumption) (by omega) (by omega) (by omega) (by decide) ?_
                      refine r_icne (q := 113) (q2 := 103) C (by omega) (by omega) dX9_overdue_100 (by decide) rfl (fun br100 => ?_) (fun br100 => ?_)
                      · refine r_iconst (q := 114) C dX9_overdue_113 rfl ?_
                        refine r_iadd (q := 115) C dX9_overdue_114 rfl ?_
                        refine r_is3 (q := 116) C dX9_overdue_115 rfl (by decide) ?_
                        refine r_iinc4 (q := 119) C dX9_overdue_116 rfl (by decide) ?_
                        refine r_goto (q := 34) C dX9_overdue_119 (by decide) ?_
                        have e1 : sumF (fun kx => if ovF ((σ (mC + 1)) (21 + 8 * kx)) ((σ (mC + 1)) (22 + 8 * kx)) ((σ (mC + 1)) 2) = true ∧ ((σ (mC + 1)) (22 + 8 * kx) < (σ (mC + 1)) (22 + 8 * jx) ∨ ((σ (mC + 1)) (22 + 8 * kx) = (σ (mC + 1)) (22 + 8 * jx) ∧ kx < jx)) then 1 else 0) kx + 0 = sumF (fun kx => if ovF ((σ (mC + 1)) (21 + 8 * kx)) ((σ (mC + 1)) (22 + 8 * kx)) ((σ (mC + 1)) 2) = true ∧ ((σ (mC + 1)) (22 + 8 * kx) < (σ (mC + 1)) (22 + 8 * jx) ∨ ((σ (mC + 1)) (22 + 8 * kx) = (σ (mC + 1)) (22 + 8 * jx) ∧ kx < jx)) then 1 else 0) (kx + 1) := by rw [sumF, if_neg (fun hc => hc.2.elim (fun q => by omega) (fun q => br100 q.1))]
                        rw [e1]
                        exact ih2 (kx + 1) (by omega) (by omega)
                      · refine r_il4 (q := 105) C dX9_overdue_103 rfl ?_
                        refine r_il2 (q := 106) C dX9_overdue_105 rfl ?_
                        refine r_icge (q := 113) (q2 := 109) C (by omega) (by omega) dX9_overdue_106 (by decide) rfl (fun br106 => ?_) (fun br106 => ?_)
                        · refine r_iconst (q := 114) C dX9_overdue_113 rfl ?_
                          refine r_iadd (q := 115) C dX9_overdue_114 rfl ?_
                          refine r_is3 (q := 116) C dX9_overdue_115 rfl (by decide) ?_
                          refine r_iinc4 (q := 119) C dX9_overdue_116 rfl (by decide) ?_
                          refine r_goto (q := 34) C dX9_overdue_119 (by decide) ?_
                          have e1 : sumF (fun kx => if ovF ((σ (mC + 1)) (21 + 8 * kx)) ((σ (mC + 1)) (22 + 8 * kx)) ((σ (mC + 1)) 2) = true ∧ ((σ (mC + 1)) (22 + 8 * kx) < (σ (mC + 1)) (22 + 8 * jx) ∨ ((σ (mC + 1)) (22 + 8 * kx) = (σ (mC + 1)) (22 + 8 * jx) ∧ kx < jx)) then 1 else 0) kx + 0 = sumF (fun kx => if ovF ((σ (mC + 1)) (21 + 8 * kx)) ((σ (mC + 1)) (22 + 8 * kx)) ((σ (mC + 1)) 2) = true ∧ ((σ (mC + 1)) (22 + 8 * kx) < (σ (mC + 1)) (22 + 8 * jx) ∨ ((σ (mC + 1)) (22 + 8 * kx) = (σ (mC + 1)) (22 + 8 * jx) ∧ kx < jx)) then 1 else 0) (kx + 1) := by rw [sumF, if_neg (fun hc => hc.2.elim (fun q => by omega) (fun q => by omega))]
                          rw [e1]
                          exact ih2 (kx + 1) (by omega) (by omega)
                        · refine r_iconst (q := 110) C dX9_overdue_109 rfl ?_
                          refine r_goto (q := 114) C dX9_overdue_110 (by decide) ?_
                          refine r_iadd (q := 115) C dX9_overdue_114 rfl ?_
                          refine r_is3 (q := 116) C dX9_overdue_115 rfl (by decide) ?_
                          refine r_iinc4 (q := 119) C dX9_overdue_116 rfl (by decide) ?_
                          refine r_goto (q := 34) C dX9_overdue_119 (by decide) ?_
                          have e1 : sumF (fun kx => if ovF ((σ (mC + 1)) (21 + 8 * kx)) ((σ (mC + 1)) (22 + 8 * kx)) ((σ (mC + 1)) 2) = true ∧ ((σ (mC + 1)) (22 + 8 * kx) < (σ (mC + 1)) (22 + 8 * jx) ∨ ((σ (mC + 1)) (22 + 8 * kx) = (σ (mC + 1)) (22 + 8 * jx) ∧ kx < jx)) then 1 else 0) kx + 1 = sumF (fun kx => if ovF ((σ (mC + 1)) (21 + 8 * kx)) ((σ (mC + 1)) (22 + 8 * kx)) ((σ (mC + 1)) 2) = true ∧ ((σ (mC + 1)) (22 + 8 * kx) < (σ (mC + 1)) (22 + 8 * jx) ∨ ((σ (mC + 1)) (22 + 8 * kx) = (σ (mC + 1)) (22 + 8 * jx) ∧ kx < jx)) then 1 else 0) (kx + 1) := by rw [sumF, if_pos ⟨ovF_t.mpr br49, Or.inr ⟨br100, by omega⟩⟩]
                          rw [e1]
                          exact ih2 (kx + 1) (by omega) (by omega)
                  · refine r_ifeq_t (q := 113) C (by decide) (by omega) dX9_overdue_52 (by decide) ?_
                    refine r_iconst (q := 114) C dX9_overdue_113 rfl ?_
                    refine r_iadd (q := 115) C dX9_overdue_114 rfl ?_
                    refine r_is3 (q := 116) C dX9_overdue_115 rfl (by decide) ?_
                    refine r_iinc4 (q := 119) C dX9_overdue_116 rfl (by decide) ?_
                    refine r_goto (q := 34) C dX9_overdue_119 (by decide) ?_
                    have e1 : sumF (fun kx => if ovF ((σ (mC + 1)) (21 + 8 * kx)) ((σ (mC + 1)) (22 + 8 * kx)) ((σ (mC + 1)) 2) = true ∧ ((σ (mC + 1)) (22 + 8 * kx) < (σ (mC + 1)) (22 + 8 * jx) ∨ ((σ (mC + 1)) (22 + 8 * kx) = (σ (mC + 1)) (22 + 8 * jx) ∧ kx < jx)) then 1 else 0) kx + 0 = sumF (fun kx => if ovF ((σ (mC + 1)) (21 + 8 * kx)) ((σ (mC + 1)) (22 + 8 * kx)) ((σ (mC + 1)) 2) = true ∧ ((σ (mC + 1)) (22 + 8 * kx) < (σ (mC + 1)) (22 + 8 * jx) ∨ ((σ (mC + 1)) (22 + 8 * kx) = (σ (mC + 1)) (22 + 8 * jx) ∧ kx < jx)) then 1 else 0) (kx + 1) := by rw [sumF, if_neg (fun hc => br49 (ovF_t.mp hc.1))]
                    rw [e1]
                    exact ih2 (kx + 1) (by omega) (by omega)
            exact lp2 _ 0 (Nat.lt_succ_self _) (by omega)
          · refine r_ifne_f (q := 29) (q2 := 26) C (by decide) (by omega) dX9_overdue_23 (by decide) rfl ?_
            refine r_goto (q := 129) C dX9_overdue_26 (by decide) ?_
            refine r_iinc2 (q := 132) C dX9_overdue_129 rfl (by decide) ?_
            refine r_goto (q := 8) C dX9_overdue_132 (by decide) ?_
            exact ih (jx + 1) _ _ (by omega) (by omega) (by rw [h2, show nLn (σ (mC + 1)) - jx = (nLn (σ (mC + 1)) - (jx + 1)) + 1 by omega, findF, if_neg (by rw [Bool.and_eq_true]; exact fun hc => br20 (ovF_t.mp hc.1))])
    refine r_iconst (q := 7) C dX9_overdue_6 rfl ?_
    refine r_is2 (q := 8) C dX9_overdue_7 rfl (by decide) ?_
    exact lp _ 0 none none (Nat.lt_succ_self _) (by omega) rfl
  · refine r_iconst (q := 5) C dX9_overdue_4 rfl ?_
    exact r_iret C hr dX9_overdue_5 (by decide) (by decide) ⟨by rw [fOverdue, if_pos (by omega)], rfl, rfl⟩
set_option maxRecDepth 20000 in
set_option maxHeartbeats 8000000 in
theorem c_X9_borrower {T : oT} {σ : oM} {mC : Nat} (hM : oMm T mC) {Bd : Int} (hI : oI Bd (σ (mC + 1))) {z v : Int} (hz : o_r z) (hv : o_r v) : MS yX9_borrower cX9_borrower 5 (some FieldType.int) 2 0 0 42 [og mC, oi z, oi v] T σ (oP1 (oi (fBorrower (σ (mC + 1)) z v)) T σ) := by
  have hMc := hM
  obtain ⟨hM0, hMr0, hMr1, hMr2, hMr3, hMr8, hMr9, hMr10, hMr11, hMr13, hMr14, hMr15, hMr16, hMr17, hMr18, hMr19, hMr20, hMk1, hMk2, hMk3, hMk4, hMk5, hMk6, hMk7, hMk8, hMk9, hMk10, hMk11, hMk12, hMk13, hMk14, hMk15, hMk16, hMT⟩ := hMc
  have hI0 := hI.2.1
  have hI1 := hI.2.2.1
  have hI2 := hI.2.2.2.1
  have hIn := oI_n hI
  have hIB := hI.1
  refine o_met (by decide +kernel) (Nat.le_of_ble_eq_true rfl) (fun p l ee s m args below meth c G b C hr hn => ?_)
  have C : oCx p s m args meth c G b RX9 cX9_borrower 5 := C
  show oW p l ee ({ frames := 2, cells := 0, slots := 0, locals := 42 } : Room) s m args below meth c G b 5 0 0 (MQ below (o_Qc G b (oP1 (oi (fBorrower (σ (mC + 1)) z v)) T σ)) args s 0 0 (fun q => b ≤ q)) T σ 0 [some (og mC), some (oi z), some (oi v), none, none] []
  refine r_il1 (q := 1) C dX9_borrower_0 rfl ?_
  refine r_iconst (q := 2) C dX9_borrower_1 rfl ?_
  refine r_iconst (q := 3) C dX9_borrower_2 rfl ?_
  refine r_callSb (q := 6) C (c_X9_in hz (by omega) (by omega)) m_X9_108 dX9_borrower_3 rfl rfl (by decide) (by decide) (Nat.le_of_ble_eq_true rfl) (fun br3 => ?_) (fun br3 => ?_)
  · refine r_ifeq_f (q := 18) (q2 := 9) C (by decide) (by omega) dX9_borrower_6 (by decide) rfl ?_
    refine r_il2 (q := 10) C dX9_borrower_9 rfl ?_
    refine r_iconst (q := 11) C dX9_borrower_10 rfl ?_
    refine r_iconst (q := 12) C dX9_borrower_11 rfl ?_
    refine r_callSb (q := 15) C (c_X9_in hv (by omega) (by omega)) m_X9_108 dX9_borrower_12 rfl rfl (by decide) (by decide) (Nat.le_of_ble_eq_true rfl) (fun br12 => ?_) (fun br12 => ?_)
    · refine r_ifne_t (q := 20) C (by decide) (by omega) dX9_borrower_15 (by decide) ?_
      have hs := fBorrower.eq_1 (σ (mC + 1)) z v
      rw [if_pos ⟨br3, br12⟩] at hs
      have lp : ∀ (n : Nat) (jx : Nat), nLn (σ (mC + 1)) - jx < n → (jx ≤ nLn (σ (mC + 1))) → oW p l ee ({ frames := 2, cells := 0, slots := 0, locals := 42 } : Room) s m args below meth c G b 5 0 0 (MQ below (o_Qc G b (oP1 (oi (fBorrower (σ (mC + 1)) z v)) T σ)) args s 0 0 (fun q => b ≤ q)) T σ 25 [some (og mC), some (oi z), some (oi v), some (oi (sumF (fun jx => if (σ (mC + 1)) (17 + 8 * jx) = z then (if v = 0 then (σ (mC + 1)) (21 + 8 * jx) else if v = 1 then (σ (mC + 1)) (24 + 8 * jx) else if v = 2 then (σ (mC + 1)) (23 + 8 * jx) else if 0 < (σ (mC + 1)) (21 + 8 * jx) ∧ (σ (mC + 1)) (22 + 8 * jx) < (σ (mC + 1)) 2 then 1 else 0) else 0) jx)), some (oi ((jx : Nat) : Int))] [] := by
        intro n
        induction n with
        | zero =>
          intro jx hms
          exact absurd hms (Nat.not_lt_zero _)
        | succ n ih =>
          intro jx hms h1
          refine r_il4 (q := 27) C dX9_borrower_25 rfl ?_
          refine r_al0 (q := 28) C dX9_borrower_27 rfl ?_
          refine r_getR (q := 31) C f_X9_9 dX9_borrower_28 rfl rfl (by assumption) (by assumption) (by omega) ?_
          refine r_iconst (q := 32) C dX9_borrower_31 rfl ?_
          refine r_iald (q := 33) C (1) dX9_borrower_32 rfl (by assumption) (by omega) (by omega) (by omega) (by decide) ?_
          refine r_icge (q := 135) (q2 := 36) C (by omega) (by omega) dX9_borrower_33 (by decide) rfl (fun br33 => ?_) (fun br33 => ?_)
          · refine r_il3 (q := 136) C dX9_borrower_135 rfl ?_
            exact r_iret C hr dX9_borrower_136 (by decide) (by decide) ⟨by rw [hs, show jx = nLn (σ (mC + 1)) by omega]; rfl, rfl, rfl⟩
          · have hq := hI.2.2.2.2.2.2.1 jx (by omega)
            refine r_al0 (q := 37) C dX9_borrower_36 rfl ?_
            refine r_getR (q := 40) C f_X9_9 dX9_borrower_37 rfl rfl (by assumption) (by assumption) (by omega) ?_
            refine r_il4 (q := 42) C dX9_borrower_40 rfl ?_
            refine r_iconst (q := 43) C dX9_borrower_42 rfl ?_
            refine r_callS1 (q := 46) C (c_X9_loanAt) m_X9_192 dX9_borrower_43 rfl rfl (by decide) (by decide) (Nat.le_of_ble_eq_true rfl) ?_
            refine r_iald (q := 47) C ((17 + 8 * jx)) dX9_borrower_46 rfl (by assumption) (by omega) (by omega) (by omega) (by decide) ?_
            refine r_il1 (q := 48) C dX9_borrower_47 rfl ?_
            refine r_iceq (q := 54) (q2 := 51) C (by omega) (by omega) dX9_borrower_48 (by decide) rfl (fun br48 => ?_) (fun br48 => ?_)
            · refine r_il3 (q := 55) C dX9_borrower_54 rfl ?_
              refine r_il2 (q := 56) C dX9_borrower_55 rfl ?_
              refine r_ifne (q := 73) (q2 := 59) C (by omega) dX9_borrower_56 (by decide) rfl (fun br56 => ?_) (fun br56 => ?_)
              · refine r_il2 (q := 74) C dX9_borrower_73 rfl ?_
                refine r_iconst (q := 75) C dX9_borrower_74 rfl ?_
                refine r_icne (q := 93) (q2 := 78) C (by omega) (by omega) dX9_borrower_75 (by decide) rfl (fun br75 => ?_) (fun br75 => ?_)
                · refine r_il2 (q := 94) C dX9_borrower_93 rfl ?_
                  refine r_iconst (q := 95) C dX9_borrower_94 rfl ?_
                  refine r_icne (q := 113) (q2 := 98) C (by omega) (by omega) dX9_borrower_95 (by decide) rfl (fun br95 => ?_) (fun br95 => ?_)
                  · refine r_al0 (q := 114) C dX9_borrower_113 rfl ?_
                    refine r_il4 (q := 116) C dX9_borrower_114 rfl ?_
                    refine r_callVb (q := 119) C (c_X9_isOverdue (lN := jx) hM hI (by omega)) m_X9_195 (by assumption) (by omega) dX9_borrower_116 rfl rfl (by decide) (by decide) (Nat.le_of_ble_eq_true rfl) (fun br116 => ?_) (fun br116 => ?_)
                    · refine r_ifeq_f (q := 126) (q2 := 122) C (by decide) (by omega) dX9_borrower_119 (by decide) rfl ?_
                      refine r_iconst (q := 123) C dX9_borrower_122 rfl ?_
                      refine r_goto (q := 127) C dX9_borrower_123 (by decide) ?_
                      refine r_iadd (q := 128) C dX9_borrower_127 rfl ?_
                      refine r_is3 (q := 129) C dX9_borrower_128 rfl (by decide) ?_
                      refine r_iinc4 (q := 132) C dX9_borrower_129 rfl (by decide) ?_
                      refine r_goto (q := 25) C dX9_borrower_132 (by decide) ?_
                      have e1 : sumF (fun jx => if (σ (mC + 1)) (17 + 8 * jx) = z then (if v = 0 then (σ (mC + 1)) (21 + 8 * jx) else if v = 1 then (σ (mC + 1)) (24 + 8 * jx) else if v = 2 then (σ (mC + 1)) (23 + 8 * jx) else if 0 < (σ (mC + 1)) (21 + 8 * jx) ∧ (σ (mC + 1)) (22 + 8 * jx) < (σ (mC + 1)) 2 then 1 else 0) else 0) jx + 1 = sumF (fun jx => if (σ (mC + 1)) (17 + 8 * jx) = z then (if v = 0 then (σ (mC + 1)) (21 + 8 * jx) else if v = 1 then (σ (mC + 1)) (24 + 8 * jx) else if v = 2 then (σ (mC + 1)) (23 + 8 * jx) else if 0 < (σ (mC + 1)) (21 + 8 * jx) ∧ (σ (mC + 1)) (22 + 8 * jx) < (σ (mC + 1)) 2 then 1 else 0) else 0) (jx + 1) := by rw [sumF, if_pos br48, if_neg br56, if_neg br75, if_neg br95, if_pos br116]
                      rw [e1]
                      exact ih (jx + 1) (by omega) (by omega)
                    · refine r_ifeq_t (q := 126) C (by decide) (by omega) dX9_borrower_119 (by decide) ?_
                      refine r_iconst (q := 127) C dX9_borrower_126 rfl ?_
                      refine r_iadd (q := 128) C dX9_borrower_127 rfl ?_
                      refine r_is3 (q := 129) C dX9_borrower_128 rfl (by decide) ?_
                      refine r_iinc4 (q := 132) C dX9_borrower_129 rfl (by decide) ?_
                      refine r_goto (q := 25) C dX9_borrower_132 (by decide) ?_
                      have e1 : sumF (fun jx => if (σ (mC + 1)) (17 + 8 * jx) = z then (if v = 0 then (σ (mC + 1)) (21 + 8 * jx) else if v = 1 then (σ (mC + 1)) (24 + 8 * jx) else if v = 2 then (σ (mC + 1)) (23 + 8 * jx) else if 0 < (σ (mC + 1)) (21 + 8 * jx) ∧ (σ (mC + 1)) (22 + 8 * jx) < (σ (mC + 1)) 2 then 1 else 0) else 0) jx + 0 = sumF (fun jx => if (σ (mC + 1)) (17 + 8 * jx) = z then (if v = 0 then (σ (mC + 1)) (21 + 8 * jx) else if v = 1 then (σ (mC + 1)) (24 + 8 * jx) else if v = 2 then (σ (mC + 1)) (23 + 8 * jx) else if 0 < (σ (mC + 1)) (21 + 8 * jx) ∧ (σ (mC + 1)) (22 + 8 * jx) < (σ (mC + 1)) 2 then 1 else 0) else 0) (jx + 1) := by rw [sumF, if_pos br48, if_neg br56, if_neg br75, if_neg br95, if_neg br116]
                      rw [e1]
                      exact ih (jx + 1) (by omega) (by omega)
                  · refine r_al0 (q := 99) C dX9_borrower_98 rfl ?_
                    refine r_getR (q := 102) C f_X9_9 dX9_borrower_99 rfl rfl (by assumption) (by assumption) (by omega) ?_
                    refine r_il4 (q := 104) C dX9_borrower_102 rfl ?_
                    refine r_bipush (q := 106) C dX9_borrower_104 (by decide) rfl ?_
                    refine r_callS1 (q := 109) C (c_X9_loanAt) m_X9_192 dX9_borrower_106 rfl rfl (by decide) (by decide) (Nat.le_of_ble_eq_true rfl) ?_
                    refine r_iald (q := 110) C ((23 + 8 * jx)) dX9_borrower_109 rfl (by assumption) (by omega) (by omega) (by omega) (by decide) ?_
                    refine r_goto (q := 127) C dX9_borrower_110 (by decide) ?_
                    refine r_iadd (q := 128) C dX9_borrower_127 rfl ?_
                    refine r_is3 (q := 129) C dX9_borrower_128 rfl (by decide) ?_
                    refine r_iinc4 (q := 132) C dX9_borrower_129 rfl (by decide) ?_
                    refine r_goto (q := 25) C dX9_borrower_132 (by decide) ?_
                    have e1 : sumF (fun jx => if (σ (mC + 1)) (17 + 8 * jx) = z then (if v = 0 then (σ (mC + 1)) (21 + 8 * jx) else if v = 1 then (σ (mC + 1)) (24 + 8 * jx) else if v = 2 then (σ (mC + 1)) (23 + 8 * jx) else if 0 < (σ (mC + 1)) (21 + 8 * jx) ∧ (σ (mC + 1)) (22 + 8 * jx) < (σ (mC + 1)) 2 then 1 else 0) else 0) jx + (σ (mC + 1)) (23 + 8 * jx) = sumF (fun jx => if (σ (mC + 1)) (17 + 8 * jx) = z then (if v = 0 then (σ (mC + 1)) (21 + 8 * jx) else if v = 1 then (σ (mC + 1)) (24 + 8 * jx) else if v = 2 then (σ (mC + 1)) (23 + 8 * jx) else if 0 < (σ (mC + 1)) (21 + 8 * jx) ∧ (σ (mC + 1)) (22 + 8 * jx) < (σ (mC + 1)) 2 then 1 else 0) else 0) (jx + 1) := by rw [sumF, if_pos br48, if_neg br56, if_neg br75, if_pos br95]
                    rw [e1]
                    exact ih (jx + 1) (by omega) (by omega)
                · refine r_al0 (q := 79) C dX9_borrower_78 rfl ?_
                  refine r_getR (q := 82) C f_X9_9 dX9_borrower_79 rfl rfl (by assumption) (by assumption) (by omega) ?_
                  refine r_il4 (q := 84) C dX9_borrower_82 rfl ?_
                  refine r_bipush (q := 86) C dX9_borrower_84 (by decide) rfl ?_
                  refine r_callS1 (q := 89) C (c_X9_loanAt) m_X9_192 dX9_borrower_86 rfl rfl (by decide) (by decide) (Nat.le_of_ble_eq_true rfl) ?_
                  refine r_iald (q := 90) C ((24 + 8 * jx)) dX9_borrower_89 rfl (by assumption) (by omega) (by omega) (by omega) (by decide) ?_
                  refine r_goto (q := 127) C dX9_borrower_90 (by decide) ?_
                  refine r_iadd (q := 128) C dX9_borrower_127 rfl ?_
                  refine r_is3 (q := 129) C dX9_borrower_128 rfl (by decide) ?_
                  refine r_iinc4 (q := 132) C dX9_borrower_129 rfl (by decide) ?_
                  refine r_goto (q := 25) C dX9_borrower_132 (by decide) ?_
                  have e1 : sumF (fun jx => if (σ (mC + 1)) (17 + 8 * jx) = z then (if v = 0 then (σ (mC + 1)) (21 + 8 * jx) else if v = 1 then (σ (mC + 1)) (24 + 8 * jx) else if v = 2 then (σ (mC + 1)) (23 + 8 * jx) else if 0 < (σ (mC + 1)) (21 + 8 * jx) ∧ (σ (mC + 1)) (22 + 8 * jx) < (σ (mC + 1)) 2 then 1 else 0) else 0) jx + (σ (mC + 1)) (24 + 8 * jx) = sumF (fun jx => if (σ (mC + 1)) (17 + 8 * jx) = z then (if v = 0 then (σ (mC + 1)) (21 + 8 * jx) else if v = 1 then (σ (mC + 1)) (24 + 8 * jx) else if v = 2 then (σ (mC + 1)) (23 + 8 * jx) else if 0 < (σ (mC + 1)) (21 + 8 * jx) ∧ (σ (mC + 1)) (22 + 8 * jx) < (σ (mC + 1)) 2 then 1 else 0) else 0) (jx + 1) := by rw [sumF, if_pos br48, if_neg br56, if_pos br75]
                  rw [e1]
                  exact ih (jx + 1) (by omega) (by omega)
              · refine r_al0 (q := 60) C dX9_borrower_59 rfl ?_
                refine r_getR (q := 63) C f_X9_9 dX9_borrower_60 rfl rfl (by assumption) (by assumption) (by omega) ?_
                refine r_il4 (q := 65) C dX9_borrower_63 rfl ?_
                refine r_iconst (q := 66) C dX9_borrower_65 rfl ?_
                refine r_callS1 (q := 69) C (c_X9_loanAt) m_X9_192 dX9_borrower_66 rfl rfl (by decide) (by decide) (Nat.le_of_ble_eq_true rfl) ?_
                refine r_iald (q := 70) C ((21 + 8 * jx)) dX9_borrower_69 rfl (by assumption) (by omega) (by omega) (by omega) (by decide) ?_
                refine r_goto (q := 127) C dX9_borrower_70 (by decide) ?_
                refine r_iadd (q := 128) C dX9_borrower_127 rfl ?_
                refine r_is3 (q := 129) C dX9_borrower_128 rfl (by decide) ?_
                refine r_iinc4 (q := 132) C dX9_borrower_129 rfl (by decide) ?_
                refine r_goto (q := 25) C dX9_borrower_132 (by decide) ?_
                have e1 : sumF (fun jx => if (σ (mC + 1)) (17 + 8 * jx) = z then (if v = 0 then (σ (mC + 1)) (21 + 8 * jx) else if v = 1 then (σ (mC + 1)) (24 + 8 * jx) else if v = 2 then (σ (mC + 1)) (23 + 8 * jx) else if 0 < (σ (mC + 1)) (21 + 8 * jx) ∧ (σ (mC + 1)) (22 + 8 * jx) < (σ (mC + 1)) 2 then 1 else 0) else 0) jx + (σ (mC + 1)) (21 + 8 * jx) = sumF (fun jx => if (σ (mC + 1)) (17 + 8 * jx) = z then (if v = 0 then (σ (mC + 1)) (21 + 8 * jx) else if v = 1 then (σ (mC + 1)) (24 + 8 * jx) else if v = 2 then (σ (mC + 1)) (23 + 8 * jx) else if 0 < (σ (mC + 1)) (21 + 8 * jx) ∧ (σ (mC + 1)) (22 + 8 * jx) < (σ (mC + 1)) 2 then 1 else 0) else 0) (jx + 1) := by rw [sumF, if_pos br48, if_pos br56]
                rw [e1]
                exact ih (jx + 1) (by omega) (by omega)
            · refine r_goto (q := 129) C dX9_borrower_51 (by decide) ?_
              refine r_iinc4 (q := 132) C dX9_borrower_129 rfl (by decide) ?_
              refine r_goto (q := 25) C dX9_borrower_132 (by decide) ?_
              have e1 : sumF (fun jx => if (σ (mC + 1)) (17 + 8 * jx) = z then (if v = 0 then (σ (mC + 1)) (21 + 8 * jx) else if v = 1 then (σ (mC + 1)) (24 + 8 * jx) else if v = 2 then (σ (mC + 1)) (23 + 8 * jx) else if 0 < (σ (mC + 1)) (21 + 8 * jx) ∧ (σ (mC + 1)) (22 + 8 * jx) < (σ (mC + 1)) 2 then 1 else 0) else 0) jx = sumF (fun jx => if (σ (mC + 1)) (17 + 8 * jx) = z then (if v = 0 then (σ (mC + 1)) (21 + 8 * jx) else if v = 1 then (σ (mC + 1)) (24 + 8 * jx) else if v = 2 then (σ (mC + 1)) (23 + 8 * jx) else if 0 < (σ (mC + 1)) (21 + 8 * jx) ∧ (σ (mC + 1)) (22 + 8 * jx) < (σ (mC + 1)) 2 then 1 else 0) else 0) (jx + 1) := by rw [sumF, if_neg br48, Int.add_zero]
              rw [e1]
              exact ih (jx + 1) (by omega) (by omega)
      refine r_iconst (q := 21) C dX9_borrower_20 rfl ?_
      refine r_is3 (q := 22) C dX9_borrower_21 rfl (by decide) ?_
      refine r_iconst (q := 23) C dX9_borrower_22 rfl ?_
      refine r_is4 (q := 25) C dX9_borrower_23 rfl (by decide) ?_
      exact lp _ 0 (Nat.lt_succ_self _) (by omega)
    · refine r_ifne_f (q := 20) (q2 := 18) C (by decide) (by omega) dX9_borrower_15 (by decide) rfl ?_
      refine r_iconst (q := 19) C dX9_borrower_18 rfl ?_
      exact r_iret C hr dX9_borrower_19 (by decide) (by decide) ⟨by rw [fBorrower, if_neg (fun hc => br12 hc.2)], rfl, rfl⟩
  · refine r_ifeq_t (q := 18) C (by decide) (by omega) dX9_borrower_6 (by decide) ?_
    refine r_iconst (q := 19) C dX9_borrower_18 rfl ?_
    exact r_iret C hr dX9_borrower_19 (by decide) (by decide) ⟨by rw [fBorrower, if_neg (fun hc => br3 hc.1)], rfl, rfl⟩
set_option maxRecDepth 20000 in
set_option maxHeartbeats 8000000 in
theorem c_X9_copied {T : oT} {σ : oM} {mC : Nat} (hM : oMm T mC) {z : Int} (hz : o_r z) : MS yX9_copied cX9_copied 2 (some FieldType.int) 1 0 0 22 [og mC, oi z] T σ (oP1 (oi (fCopied (σ (mC + 9) 0, σ (mC + 9) 1, σ (mC + 9) 2, σ (mC + 9) 3) z)) T σ) := by
  have hMc := hM
  obtain ⟨hM0, hMr0, hMr1, hMr2, hMr3, hMr8, hMr9, hMr10, hMr11, hMr13, hMr14, hMr15, hMr16, hMr17, hMr18, hMr19, hMr20, hMk1, hMk2, hMk3, hMk4, hMk5, hMk6, hMk7, hMk8, hMk9, hMk10, hMk11, hMk12, hMk13, hMk14, hMk15, hMk16, hMT⟩ := hMc
  refine o_met (by decide +kernel) (Nat.le_of_ble_eq_true rfl) (fun p l ee s m args below meth c G b C hr hn => ?_)
  have C : oCx p s m args meth c G b RX9 cX9_copied 2 := C
  show oW p l ee ({ frames := 1, cells := 0, slots := 0, locals := 22 } : Room) s m args below meth c G b 2 0 0 (MQ below (o_Qc G b (oP1 (oi (fCopied (σ (mC + 9) 0, σ (mC + 9) 1, σ (mC + 9) 2, σ (mC + 9) 3) z)) T σ)) args s 0 0 (fun q => b ≤ q)) T σ 0 [some (og mC), some (oi z)] []
  refine r_il1 (q := 1) C dX9_copied_0 rfl ?_
  refine r_iconst (q := 2) C dX9_copied_1 rfl ?_
  refine r_iconst (q := 3) C dX9_copied_2 rfl ?_
  refine r_callSb (q := 6) C (c_X9_in hz (by omega) (by omega)) m_X9_108 dX9_copied_3 rfl rfl (by decide) (by decide) (Nat.le_of_ble_eq_true rfl) (fun br3 => ?_) (fun br3 => ?_)
  · refine r_ifeq_f (q := 18) (q2 := 9) C (by decide) (by omega) dX9_copied_6 (by decide) rfl ?_
    refine r_al0 (q := 10) C dX9_copied_9 rfl ?_
    refine r_getR (q := 13) C f_X9_52 dX9_copied_10 rfl rfl (by assumption) (by assumption) (by omega) ?_
    refine r_il1 (q := 14) C dX9_copied_13 rfl ?_
    refine r_iald (q := 15) C (z.toNat) dX9_copied_14 rfl (by assumption) (by omega) (by omega) (by omega) (by decide) ?_
    refine r_goto (q := 19) C dX9_copied_15 (by decide) ?_
    refine r_iret C hr dX9_copied_19 (by decide) (by decide) ?_
    refine ⟨congrArg (fun q => some (oi q)) ?_, rfl, rfl⟩
    rw [fCopied, if_pos br3]
    rcases (show z = 0 ∨ z = 1 ∨ z = 2 ∨ z = 3 by omega) with rfl | rfl | rfl | rfl <;> rfl
  · refine r_ifeq_t (q := 18) C (by decide) (by omega) dX9_copied_6 (by decide) ?_
    refine r_iconst (q := 19) C dX9_copied_18 rfl ?_
    exact r_iret C hr dX9_copied_19 (by decide) (by decide) ⟨by rw [fCopied, if_neg br3], rfl, rfl⟩
set_option maxRecDepth 20000 in
set_option maxHeartbeats 8000000 in
theorem c_X9_faultPosition {T : oT} {σ : oM} {mC : Nat} (hM : oMm T mC) : MS yX9_faultPosition cX9_faultPosition 1 (some FieldType.int) 0 0 0 0 [og mC] T σ (oP1 (oi (σ mC 25)) T σ) := by
  have hMc := hM
  obtain ⟨hM0, hMr0, hMr1, hMr2, hMr3, hMr8, hMr9, hMr10, hMr11, hMr13, hMr14, hMr15, hMr16, hMr17, hMr18, hMr19, hMr20, hMk1, hMk2, hMk3, hMk4, hMk5, hMk6, hMk7, hMk8, hMk9, hMk10, hMk11, hMk12, hMk13, hMk14, hMk15, hMk16, hMT⟩ := hMc
  refine o_met (by decide +kernel) (Nat.le_of_ble_eq_true rfl) (fun p l ee s m args below meth c G b C hr hn => ?_)
  have C : oCx p s m args meth c G b RX9 cX9_faultPosition 1 := C
  show oW p l ee ({ frames := 0, cells := 0, slots := 0, locals := 0 } : Room) s m args below meth c G b 1 0 0 (MQ below (o_Qc G b (oP1 (oi (σ mC 25)) T σ)) args s 0 0 (fun q => b ≤ q)) T σ 0 [some (og mC)] []
  refine r_al0 (q := 1) C dX9_faultPosition_0 rfl ?_
  refine r_getI (q := 4) C f_X9_88 dX9_faultPosition_1 rfl rfl (by assumption) (by omega) ?_
  exact r_iret C hr dX9_faultPosition_4 (by decide) (by decide) ⟨rfl, rfl, rfl⟩
set_option maxRecDepth 20000 in
set_option maxHeartbeats 8000000 in
theorem c_X9_failed {T : oT} {σ : oM} {mC : Nat} (hM : oMm T mC) : MS yX9_failed cX9_failed 1 (some FieldType.int) 0 0 0 0 [og mC] T σ (oP1 (oi (σ mC 26)) T σ) := by
  have hMc := hM
  obtain ⟨hM0, hMr0, hMr1, hMr2, hMr3, hMr8, hMr9, hMr10, hMr11, hMr13, hMr14, hMr15, hMr16, hMr17, hMr18, hMr19, hMr20, hMk1, hMk2, hMk3, hMk4, hMk5, hMk6, hMk7, hMk8, hMk9, hMk10, hMk11, hMk12, hMk13, hMk14, hMk15, hMk16, hMT⟩ := hMc
  refine o_met (by decide +kernel) (Nat.le_of_ble_eq_true rfl) (fun p l ee s m args below meth c G b C hr hn => ?_)
  have C : oCx p s m args meth c G b RX9 cX9_failed 1 := C
  show oW p l ee ({ frames := 0, cells := 0, slots := 0, locals := 0 } : Room) s m args below meth c G b 1 0 0 (MQ below (o_Qc G b (oP1 (oi (σ mC 26)) T σ)) args s 0 0 (fun q => b ≤ q)) T σ 0 [some (og mC)] []
  refine r_al0 (q := 1) C dX9_failed_0 rfl ?_
  refine r_getI (q := 4) C f_X9_91 dX9_failed_1 rfl rfl (by assumption) (by omega) ?_
  exact r_iret C hr dX9_failed_4 (by decide) (by decide) ⟨rfl, rfl, rfl⟩
set_option maxRecDepth 20000 in
set_option maxHeartbeats 8000000 in
theorem c_X9_refusal {T : oT} {σ : oM} {mC : Nat} (hM : oMm T mC) : MS yX9_refusal cX9_refusal 1 (some FieldType.int) 0 0 0 0 [og mC] T σ (oP1 (oi (σ mC 5)) T σ) := by
  have hMc := hM
  obtain ⟨hM0, hMr0, hMr1, hMr2, hMr3, hMr8, hMr9, hMr10, hMr11, hMr13, hMr14, hMr15, hMr16, hMr17, hMr18, hMr19, hMr20, hMk1, hMk2, hMk3, hMk4, hMk5, hMk6, hMk7, hMk8, hMk9, hMk10, hMk11, hMk12, hMk13, hMk14, hMk15, hMk16, hMT⟩ := hMc
  refine o_met (by decide +kernel) (Nat.le_of_ble_eq_true rfl) (fun p l ee s m args below meth c G b C hr hn => ?_)
  have C : oCx p s m args meth c G b RX9 cX9_refusal 1 := C
  show oW p l ee ({ frames := 0, cells := 0, slots := 0, locals := 0 } : Room) s m args below meth c G b 1 0 0 (MQ below (o_Qc G b (oP1 (oi (σ mC 5)) T σ)) args s 0 0 (fun q => b ≤ q)) T σ 0 [some (og mC)] []
  refine r_al0 (q := 1) C dX9_refusal_0 rfl ?_
  refine r_getI (q := 4) C f_X9_27 dX9_refusal_1 rfl rfl (by assumption) (by omega) ?_
  exact r_iret C hr dX9_refusal_4 (by decide) (by decide) ⟨rfl, rfl, rfl⟩
set_option maxRecDepth 20000 in
set_option maxHeartbeats 8000000 in
theorem c_X9_loans {T : oT} {σ : oM} {mC : Nat} (hM : oMm T mC) {Bd : Int} (hI : oI Bd (σ (mC + 1))) {z : Int} (hz : z = 0 ∨ z = 1) : MS yX9_loans cX9_loans 4 (some FieldType.int) 1 0 0 21 [og mC, oi z] T σ (oP1 (oi (sumF (fun jx => if z = 0 then (if 0 < (σ (mC + 1)) (21 + 8 * jx) then 1 else 0) else (σ (mC + 1)) (23 + 8 * jx)) (nLn (σ (mC + 1))))) T σ) := by
  have hMc := hM
  obtain ⟨hM0, hMr0, hMr1, hMr2, hMr3, hMr8, hMr9, hMr10, hMr11, hMr13, hMr14, hMr15, hMr16, hMr17, hMr18, hMr19, hMr20, hMk1, hMk2, hMk3, hMk4, hMk5, hMk6, hMk7, hMk8, hMk9, hMk10, hMk11, hMk12, hMk13, hMk14, hMk15, hMk16, hMT⟩ := hMc
  have hI0 := hI.2.1
  have hI1 := hI.2.2.1
  have hI2 := hI.2.2.2.1
  have hIn := oI_n hI
  have hIB := hI.1
  refine o_met (by decide +kernel) (Nat.le_of_ble_eq_true rfl) (fun p l ee s m args below meth c G b C hr hn => ?_)
  have C : oCx p s m args meth c G b RX9 cX9_loans 4 := C
  show oW p l ee ({ frames := 1, cells := 0, slots := 0, locals := 21 } : Room) s m args below meth c G b 4 0 0 (MQ below (o_Qc G b (oP1 (oi (sumF (fun jx => if z = 0 then (if 0 < (σ (mC + 1)) (21 + 8 * jx) then 1 else 0) else (σ (mC + 1)) (23 + 8 * jx)) (nLn (σ (mC + 1))))) T σ)) args s 0 0 (fun q => b ≤ q)) T σ 0 [some (og mC), some (oi z), none, none] []
  have lp : ∀ (n : Nat) (jx : Nat), nLn (σ (mC + 1)) - jx < n → (jx ≤ nLn (σ (mC + 1))) → oW p l ee ({ frames := 1, cells := 0, slots := 0, locals := 21 } : Room) s m args below meth c G b 4 0 0 (MQ below (o_Qc G b (oP1 (oi (sumF (fun jx => if z = 0 then (if 0 < (σ (mC + 1)) (21 + 8 * jx) then 1 else 0) else (σ (mC + 1)) (23 + 8 * jx)) (nLn (σ (mC + 1))))) T σ)) args s 0 0 (fun q => b ≤ q)) T σ 4 [some (og mC), some (oi z), some (oi (sumF (fun jx => if z = 0 then (if 0 < (σ (mC + 1)) (21 + 8 * jx) then 1 else 0) else (σ (mC + 1)) (23 + 8 * jx)) jx)), some (oi ((jx : Nat) : Int))] [] := by
    intro n
    induction n with
    | zero =>
      intro jx hms
      exact absurd hms (Nat.not_lt_zero _)
    | succ n ih =>
      intro jx hms h1
      refine r_il3 (q := 5) C dX9_loans_4 rfl ?_
      refine r_al0 (q := 6) C dX9_loans_5 rfl ?_
      refine r_getR (q := 9) C f_X9_9 dX9_loans_6 rfl rfl (by assumption) (by assumption) (by omega) ?_
      refine r_iconst (q := 10) C dX9_loans_9 rfl ?_
      refine r_iald (q := 11) C (1) dX9_loans_10 rfl (by assumption) (by omega) (by omega) (by omega) (by decide) ?_
      refine r_icge (q := 59) (q2 := 14) C (by omega) (by omega) dX9_loans_11 (by decide) rfl (fun br11 => ?_) (fun br11 => ?_)
      · refine r_il2 (q := 60) C dX9_loans_59 rfl ?_
        exact r_iret C hr dX9_loans_60 (by decide) (by decide) ⟨by rw [show jx = nLn (σ (mC + 1)) by omega], rfl, rfl⟩
      · have hq := hI.2.2.2.2.2.2.1 jx (by omega)
        refine r_il2 (q := 15) C dX9_loans_14 rfl ?_
        refine r_il1 (q := 16) C dX9_loans_15 rfl ?_
        refine r_ifeq (q := 33) (q2 := 19) C (by omega) dX9_loans_16 (by decide) rfl (fun br16 => ?_) (fun br16 => ?_)
        · refine r_al0 (q := 34) C dX9_loans_33 rfl ?_
          refine r_getR (q := 37) C f_X9_9 dX9_loans_34 rfl rfl (by assumption) (by assumption) (by omega) ?_
          refine r_il3 (q := 38) C dX9_loans_37 rfl ?_
          refine r_iconst (q := 39) C dX9_loans_38 rfl ?_
          refine r_callS1 (q := 42) C (c_X9_loanAt) m_X9_192 dX9_loans_39 rfl rfl (by decide) (by decide) (Nat.le_of_ble_eq_true rfl) ?_
          refine r_iald (q := 43) C ((21 + 8 * jx)) dX9_loans_42 rfl (by assumption) (by omega) (by omega) (by omega) (by decide) ?_
          refine r_ifle (q := 50) (q2 := 46) C (by omega) dX9_loans_43 (by decide) rfl (fun br43 => ?_) (fun br43 => ?_)
          · refine r_iconst (q := 51) C dX9_loans_50 rfl ?_
            refine r_iadd (q := 52) C dX9_loans_51 rfl ?_
            refine r_is2 (q := 53) C dX9_loans_52 rfl (by decide) ?_
            refine r_iinc3 (q := 56) C dX9_loans_53 rfl (by decide) ?_
            refine r_goto (q := 4) C dX9_loans_56 (by decide) ?_
            have e1 : sumF (fun jx => if z = 0 then (if 0 < (σ (mC + 1)) (21 + 8 * jx) then 1 else 0) else (σ (mC + 1)) (23 + 8 * jx)) jx + 0 = sumF (fun jx => if z = 0 then (if 0 < (σ (mC + 1)) (21 + 8 * jx) then 1 else 0) else (σ (mC + 1)) (23 + 8 * jx)) (jx + 1) := by rw [sumF, if_pos br16, if_neg (by omega)]
            rw [e1]
            exact ih (jx + 1) (by omega) (by omega)
          · refine r_iconst (q := 47) C dX9_loans_46 rfl ?_
            refine r_goto (q := 51) C dX9_loans_47 (by decide) ?_
            refine r_iadd (q := 52) C dX9_loans_51 rfl ?_
            refine r_is2 (q := 53) C dX9_loans_52 rfl (by decide) ?_
            refine r_iinc3 (q := 56) C dX9_loans_53 rfl (by decide) ?_
            refine r_goto (q := 4) C dX9_loans_56 (by decide) ?_
            have e1 : sumF (fun jx => if z = 0 then (if 0 < (σ (mC + 1)) (21 + 8 * jx) then 1 else 0) else (σ (mC + 1)) (23 + 8 * jx)) jx + 1 = sumF (fun jx => if z = 0 then (if 0 < (σ (mC + 1)) (21 + 8 * jx) then 1 else 0) else (σ (mC + 1)) (23 + 8 * jx)) (jx + 1) := by rw [sumF, if_pos br16, if_pos br43]
            rw [e1]
            exact ih (jx + 1) (by omega) (by omega)
        · refine r_al0 (q := 20) C dX9_loans_19 rfl ?_
          refine r_getR (q := 23) C f_X9_9 dX9_loans_20 rfl rfl (by assumption) (by assumption) (by omega) ?_
          refine r_il3 (q := 24) C dX9_loans_23 rfl ?_
          refine r_bipush (q := 26) C dX9_loans_24 (by decide) rfl ?_
          refine r_callS1 (q := 29) C (c_X9_loanAt) m_X9_192 dX9_loans_26 rfl rfl (by decide) (by decide) (Nat.le_of_ble_eq_true rfl) ?_
          refine r_iald (q := 30) C ((23 + 8 * jx)) dX9_loans_29 rfl (by assumption) (by omega) (by omega) (by omega) (by decide) ?_
          refine r_goto (q := 51) C dX9_loans_30 (by decide) ?_
          refine r_iadd (q := 52) C dX9_loans_51 rfl ?_
          refine r_is2 (q := 53) C dX9_loans_52 rfl (by decide) ?_
          refine r_iinc3 (q := 56) C dX9_loans_53 rfl (by decide) ?_
          refine r_goto (q := 4) C dX9_loans_56 (by decide) ?_
          have e1 : sumF (fun jx => if z = 0 then (if 0 < (σ (mC + 1)) (21 + 8 * jx) then 1 else 0) else (σ (mC + 1)) (23 + 8 * jx)) jx + (σ (mC + 1)) (23 + 8 * jx) = sumF (fun jx => if z = 0 then (if 0 < (σ (mC + 1)) (21 + 8 * jx) then 1 else 0) else (σ (mC + 1)) (23 + 8 * jx)) (jx + 1) := by rw [sumF, if_neg br16]
          rw [e1]
          exact ih (jx + 1) (by omega) (by omega)
  refine r_iconst (q := 1) C dX9_loans_0 rfl ?_
  refine r_is2 (q := 2) C dX9_loans_1 rfl (by decide) ?_
  refine r_iconst (q := 3) C dX9_loans_2 rfl ?_
  refine r_is3 (q := 4) C dX9_loans_3 rfl (by decide) ?_
  exact lp _ 0 (Nat.lt_succ_self _) (by omega)
set_option maxRecDepth 20000 in
set_option maxHeartbeats 8000000 in
theorem c_X9_copiesOf {T : oT} {σ : oM} {mC : Nat} (hM : oMm T mC) {Bd : Int} (hI : oI Bd (σ (mC + 1))) {z : Int} (hz : o_r z) : MS yX9_copiesOf cX9_copiesOf 5 (some FieldType.int) 4 0 0 88 [og mC, oi z] T σ (oP1 (oi (sumF (fun jx => sumF (fun ix => fStock (σ (mC + 1)) ((jx : Nat) : Int) ((ix : Nat) : Int) z) 6) (nEd (σ (mC + 1))))) T σ) := by
  have hMc := hM
  obtain ⟨hM0, hMr0, hMr1, hMr2, hMr3, hMr8, hMr9, hMr10, hMr11, hMr13, hMr14, hMr15, hMr16, hMr17, hMr18, hMr19, hMr20, hMk1, hMk2, hMk3, hMk4, hMk5, hMk6, hMk7, hMk8, hMk9, hMk10, hMk11, hMk12, hMk13, hMk14, hMk15, hMk16, hMT⟩ := hMc
  have hI0 := hI.2.1
  have hI1 := hI.2.2.1
  have hI2 := hI.2.2.2.1
  have hIn := oI_n hI
  have hIB := hI.1
  refine o_met (by decide +kernel) (Nat.le_of_ble_eq_true rfl) (fun p l ee s m args below meth c G b C hr hn => ?_)
  have C : oCx p s m args meth c G b RX9 cX9_copiesOf 5 := C
  show oW p l ee ({ frames := 4, cells := 0, slots := 0, locals := 88 } : Room) s m args below meth c G b 5 0 0 (MQ below (o_Qc G b (oP1 (oi (sumF (fun jx => sumF (fun ix => fStock (σ (mC + 1)) ((jx : Nat) : Int) ((ix : Nat) : Int) z) 6) (nEd (σ (mC + 1))))) T σ)) args s 0 0 (fun q => b ≤ q)) T σ 0 [some (og mC), some (oi z), none, none, none] []
  have lp : ∀ (n : Nat) (jx : Nat) (w4 : Option oV), nEd (σ (mC + 1)) - jx < n → (jx ≤ nEd (σ (mC + 1))) → oW p l ee ({ frames := 4, cells := 0, slots := 0, locals := 88 } : Room) s m args below meth c G b 5 0 0 (MQ below (o_Qc G b (oP1 (oi (sumF (fun jx => sumF (fun ix => fStock (σ (mC + 1)) ((jx : Nat) : Int) ((ix : Nat) : Int) z) 6) (nEd (σ (mC + 1))))) T σ)) args s 0 0 (fun q => b ≤ q)) T σ 4 [some (og mC), some (oi z), some (oi (sumF (fun jx => sumF (fun ix => fStock (σ (mC + 1)) ((jx : Nat) : Int) ((ix : Nat) : Int) z) 6) jx)), some (oi ((jx : Nat) : Int)), w4] [] := by
    intro n
    induction n with
    | zero =>
      intro jx w4 hms
      exact absurd hms (Nat.not_lt_zero _)
    | succ n ih =>
      intro jx w4 hms h1
      refine r_il3 (q := 5) C dX9_copiesOf_4 rfl ?_
      refine r_al0 (q := 6) C dX9_copiesOf_5 rfl ?_
      refine r_getR (q := 9) C f_X9_9 dX9_copiesOf_6 rfl rfl (by assumption) (by assumption) (by omega) ?_
      refine r_iconst (q := 10) C dX9_copiesOf_9 rfl ?_
      refine r_iald (q := 11) C (0) dX9_copiesOf_10 rfl (by assumption) (by omega) (by omega) (by omega) (by decide) ?_
      refine r_icge (q := 47) (q2 := 14) C (by omega) (by omega) dX9_copiesOf_11 (by decide) rfl (fun br11 => ?_) (fun br11 => ?_)
      · refine r_il2 (q := 48) C dX9_copiesOf_47 rfl ?_
        exact r_iret C hr dX9_copiesOf_48 (by decide) (by decide) ⟨by rw [show jx = nEd (σ (mC + 1)) by omega], rfl, rfl⟩
      · refine r_iconst (q := 15) C dX9_copiesOf_14 rfl ?_
        refine r_is4 (q := 17) C dX9_copiesOf_15 rfl (by decide) ?_
        have lp2 : ∀ (n2 : Nat) (kx : Nat), 6 - kx < n2 → (kx ≤ 6) → oW p l ee ({ frames := 4, cells := 0, slots := 0, locals := 88 } : Room) s m args below meth c G b 5 0 0 (MQ below (o_Qc G b (oP1 (oi (sumF (fun jx => sumF (fun ix => fStock (σ (mC + 1)) ((jx : Nat) : Int) ((ix : Nat) : Int) z) 6) (nEd (σ (mC + 1))))) T σ)) args s 0 0 (fun q => b ≤ q)) T σ 17 [some (og mC), some (oi z), some (oi (sumF (fun jx => sumF (fun ix => fStock (σ (mC + 1)) ((jx : Nat) : Int) ((ix : Nat) : Int) z) 6) jx + sumF (fun ix => fStock (σ (mC + 1)) ((jx : Nat) : Int) ((ix : Nat) : Int) z) kx)), some (oi ((jx : Nat) : Int)), some (oi ((kx : Nat) : Int))] [] := by
          intro n2
          induction n2 with
          | zero =>
            intro kx hms
            exact absurd hms (Nat.not_lt_zero _)
          | succ n2 ih2 =>
            intro kx hms k1
            refine r_il4 (q := 19) C dX9_copiesOf_17 rfl ?_
            refine r_bipush (q := 21) C dX9_copiesOf_19 (by decide) rfl ?_
            refine r_icge (q := 41) (q2 := 24) C (by omega) (by omega) dX9_copiesOf_21 (by decide) rfl (fun br21 => ?_) (fun br21 => ?_)
            · refine r_iinc3 (q := 44) C dX9_copiesOf_41 rfl (by decide) ?_
              refine r_goto (q := 4) C dX9_copiesOf_44 (by decide) ?_
              have e1 : sumF (fun jx => sumF (fun ix => fStock (σ (mC + 1)) ((jx : Nat) : Int) ((ix : Nat) : Int) z) 6) jx + sumF (fun ix => fStock (σ (mC + 1)) ((jx : Nat) : Int) ((ix : Nat) : Int) z) kx = sumF (fun jx => sumF (fun ix => fStock (σ (mC + 1)) ((jx : Nat) : Int) ((ix : Nat) : Int) z) 6) (jx + 1) := by
                rw [show kx = 6 by omega]
                rfl
              rw [e1]
              exact ih (jx + 1) _ (by omega) (by omega)
            · refine r_il2 (q := 25) C dX9_copiesOf_24 rfl ?_
              refine r_al0 (q := 26) C dX9_copiesOf_25 rfl ?_
              refine r_il3 (q := 27) C dX9_copiesOf_26 rfl ?_
              refine r_il4 (q := 29) C dX9_copiesOf_27 rfl ?_
              refine r_il1 (q := 30) C dX9_copiesOf_29 rfl ?_
              refine r_callV1 (q := 33) C (c_X9_stock hM hI (by omega) (by omega) hz) m_X9_282 (by assumption) (by omega) dX9_copiesOf_30 rfl rfl (by decide) (by decide) (Nat.le_of_ble_eq_true rfl) ?_
              refine r_iadd (q := 34) C dX9_copiesOf_33 rfl ?_
              refine r_is2 (q := 35) C dX9_copiesOf_34 rfl (by decide) ?_
              refine r_iinc4 (q := 38) C dX9_copiesOf_35 rfl (by decide) ?_
              refine r_goto (q := 17) C dX9_copiesOf_38 (by decide) ?_
              have e1 : sumF (fun jx => sumF (fun ix => fStock (σ (mC + 1)) ((jx : Nat) : Int) ((ix : Nat) : Int) z) 6) jx + sumF (fun ix => fStock (σ (mC + 1)) ((jx : Nat) : Int) ((ix : Nat) : Int) z) kx + fStock (σ (mC + 1)) ((jx : Nat) : Int) ((kx : Nat) : Int) z = sumF (fun jx => sumF (fun ix => fStock (σ (mC + 1)) ((jx : Nat) : Int) ((ix : Nat) : Int) z) 6) jx + sumF (fun ix => fStock (σ (mC + 1)) ((jx : Nat) : Int) ((ix : Nat) : Int) z) (kx + 1) := by
                rw [Int.add_assoc]
                rfl
              rw [e1]
              exact ih2 (kx + 1) (by omega) (by omega)
        have h0 := lp2 _ 0 (Nat.lt_succ_self _) (by omega)
        rw [sumF, Int.add_zero] at h0
        exact h0
  refine r_iconst (q := 1) C dX9_copiesOf_0 rfl ?_
  refine r_is2 (q := 2) C dX9_copiesOf_1 rfl (by decide) ?_
  refine r_iconst (q := 3) C dX9_copiesOf_2 rfl ?_
  refine r_is3 (q := 4) C dX9_copiesOf_3 rfl (by decide) ?_
  exact lp _ 0 none (Nat.lt_succ_self _) (by omega)
theorem cps_of {A : Nat → Int} {Bd : Int} (hI : oI Bd A) {wx : Int} (hw : 0 ≤ wx ∧ wx ≤ 3) : sumF (fun jx => sumF (fun ix => fStock A ((jx : Nat) : Int) ((ix : Nat) : Int) wx) 6) (nEd A) = cpsF A wx := by
  have hn := oI_n hI
  unfold cpsF
  refine sumF_congr (fun j hj => ?_)
  try simp only
  refine sumF_congr (fun i hi => ?_)
  try simp only
  rw [fStock_y ⟨by omega, by omega⟩ hi]
  rcases (show wx = 0 ∨ wx = 1 ∨ wx = 2 ∨ wx = 3 by omega) with rfl | rfl | rfl | rfl <;> rfl
set_option maxRecDepth 20000 in
set_option maxHeartbeats 8000000 in
theorem c_X9_count {T : oT} {σ : oM} {mC : Nat} (hM : oMm T mC) {Bd : Int} (hI : oI Bd (σ (mC + 1))) {z : Int} (hz : o_r z) : MS yX9_count cX9_count 2 (some FieldType.int) 5 0 0 112 [og mC, oi z] T σ (oP1 (oi (fCount (σ (mC + 1)) (σ mC 4) (σ mC 21) z)) T σ) := by
  have hMc := hM
  obtain ⟨hM0, hMr0, hMr1, hMr2, hMr3, hMr8, hMr9, hMr10, hMr11, hMr13, hMr14, hMr15, hMr16, hMr17, hMr18, hMr19, hMr20, hMk1, hMk2, hMk3, hMk4, hMk5, hMk6, hMk7, hMk8, hMk9, hMk10, hMk11, hMk12, hMk13, hMk14, hMk15, hMk16, hMT⟩ := hMc
  have hI0 := hI.2.1
  have hI1 := hI.2.2.1
  have hI2 := hI.2.2.2.1
  have hIn := oI_n hI
  have hIB := hI.1
  refine o_met (by decide +kernel) (Nat.le_of_ble_eq_true rfl) (fun p l ee s m args below meth c G b C hr hn => ?_)
  have C : oCx p s m args meth c G b RX9 cX9_count 2 := C
  show oW p l ee ({ frames := 5, cells := 0, slots := 0, locals := 112 } : Room) s m args below meth c G b 2 0 0 (MQ below (o_Qc G b (oP1 (oi (fCount (σ (mC + 1)) (σ mC 4) (σ mC 21) z)) T σ)) args s 0 0 (fun q => b ≤ q)) T σ 0 [some (og mC), some (oi z)] []
  refine r_il1 (q := 1) C dX9_count_0 rfl ?_
  have hs := fCount.eq_1 (σ (mC + 1)) (σ mC 4) (σ mC 21) z
  rcases (show z = 0 ∨ z = 1 ∨ z = 2 ∨ z = 3 ∨ z = 4 ∨ z = 5 ∨ z = 6 ∨ z = 7 ∨ z = 8 ∨ z = 9 ∨ z = 10 ∨ (z < 0 ∨ 10 < z) by omega) with hw1 | hw1 | hw1 | hw1 | hw1 | hw1 | hw1 | hw1 | hw1 | hw1 | hw1 | hw1
  ·
    refine r_tsin (q := 60) (j := 0) C dX9_count_1 (by omega) (by omega) (by decide) rfl (by decide) ?_
    refine r_al0 (q := 61) C dX9_count_60 rfl ?_
    refine r_getR (q := 64) C f_X9_9 dX9_count_61 rfl rfl (by assumption) (by assumption) (by omega) ?_
    refine r_iconst (q := 65) C dX9_count_64 rfl ?_
    refine r_iald (q := 66) C (0) dX9_count_65 rfl (by assumption) (by omega) (by omega) (by omega) (by decide) ?_
    exact r_iret C hr dX9_count_66 (by decide) (by decide) ⟨by rw [hs, if_pos hw1], rfl, rfl⟩
  ·
    refine r_tsin (q := 67) (j := 1) C dX9_count_1 (by omega) (by omega) (by decide) rfl (by decide) ?_
    refine r_al0 (q := 68) C dX9_count_67 rfl ?_
    refine r_getR (q := 71) C f_X9_9 dX9_count_68 rfl rfl (by assumption) (by assumption) (by omega) ?_
    refine r_iconst (q := 72) C dX9_count_71 rfl ?_
    refine r_iald (q := 73) C (1) dX9_count_72 rfl (by assumption) (by omega) (by omega) (by omega) (by decide) ?_
    exact r_iret C hr dX9_count_73 (by decide) (by decide) ⟨by rw [hs, if_neg (by omega), if_pos hw1], rfl, rfl⟩
  ·
    refine r_tsin (q := 74) (j := 2) C dX9_count_1 (by omega) (by omega) (by decide) rfl (by decide) ?_
    refine r_al0 (q := 75) C dX9_count_74 rfl ?_
    refine r_iconst (q := 76) C dX9_count_75 rfl ?_
    refine r_callV1 (q := 79) C (c_X9_loans (z := 0) hM hI (Or.inl rfl)) m_X9_285 (by assumption) (by omega) dX9_count_76 rfl rfl (by decide) (by decide) (Nat.le_of_ble_eq_true rfl) ?_
    exact r_iret C hr dX9_count_79 (by decide) (by decide) ⟨by rw [hs, if_neg (by omega), if_neg (by omega), if_pos hw1]; rfl, rfl, rfl⟩
  ·
    refine r_tsin (q := 80) (j := 3) C dX9_count_1 (by omega) (by omega) (by decide) rfl (by decide) ?_
    refine r_al0 (q := 81) C dX9_count_80 rfl ?_
    refine r_il1 (q := 82) C dX9_count_81 rfl ?_
    refine r_iconst (q := 83) C dX9_count_82 rfl ?_
    refine r_isub (q := 84) C dX9_count_83 rfl ?_
    rw [show z - 3 = 0 by omega]
    refine r_callV1 (q := 87) C (c_X9_copiesOf (z := 0) hM hI (by omega)) m_X9_289 (by assumption) (by omega) dX9_count_84 rfl rfl (by decide) (by decide) (Nat.le_of_ble_eq_true rfl) ?_
    rw [cps_of hI (by omega)]
    exact r_iret C hr dX9_count_87 (by decide) (by decide) ⟨by rw [hs, if_neg (by omega), if_neg (by omega), if_neg (by omega), if_pos hw1], rfl, rfl⟩
  ·
    refine r_tsin (q := 80) (j := 4) C dX9_count_1 (by omega) (by omega) (by decide) rfl (by decide) ?_
    refine r_al0 (q := 81) C dX9_count_80 rfl ?_
    refine r_il1 (q := 82) C dX9_count_81 rfl ?_
    refine r_iconst (q := 83) C dX9_count_82 rfl ?_
    refine r_isub (q := 84) C dX9_count_83 rfl ?_
    rw [show z - 3 = 1 by omega]
    refine r_callV1 (q := 87) C (c_X9_copiesOf (z := 1) hM hI (by omega)) m_X9_289 (by assumption) (by omega) dX9_count_84 rfl rfl (by decide) (by decide) (Nat.le_of_ble_eq_true rfl) ?_
    rw [cps_of hI (by omega)]
    exact r_iret C hr dX9_count_87 (by decide) (by decide) ⟨by rw [hs, if_neg (by omega), if_neg (by omega), if_neg (by omega), if_neg (by omega), if_pos hw1], rfl, rfl⟩
  ·
    refine r_tsin (q := 80) (j := 5) C dX9_count_1 (by omega) (by omega) (by decide) rfl (by decide) ?_
    refine r_al0 (q := 81) C dX9_count_80 rfl ?_
    refine r_il1 (q := 82) C dX9_count_81 rfl ?_
    refine r_iconst (q := 83) C dX9_count_82 rfl ?_
    refine r_isub (q := 84) C dX9_count_83 rfl ?_
    rw [show z - 3 = 2 by omega]
    refine r_callV1 (q := 87) C (c_X9_copiesOf (z := 2) hM hI (by omega)) m_X9_289 (by assumption) (by omega) dX9_count_84 rfl rfl (by decide) (by decide) (Nat.le_of_ble_eq_true rfl) ?_
    rw [cps_of hI (by omega)]
    exact r_iret C hr dX9_count_87 (by decide) (by decide) ⟨by rw [hs, if_neg (by omega), if_neg (by omega), if_neg (by omega), if_neg (by omega), if_neg (by omega), if_pos hw1], rfl, rfl⟩
  ·
    refine r_tsin (q := 80) (j := 6) C dX9_count_1 (by omega) (by omega) (by decide) rfl (by decide) ?_
    refine r_al0 (q := 81) C dX9_count_80 rfl ?_
    refine r_il1 (q := 82) C dX9_count_81 rfl ?_
    refine r_iconst (q := 83) C dX9_count_82 rfl ?_
    refine r_isub (q := 84) C dX9_count_83 rfl ?_
    rw [show z - 3 = 3 by omega]
    refine r_callV1 (q := 87) C (c_X9_copiesOf (z := 3) hM hI (by omega)) m_X9_289 (by assumption) (by omega) dX9_count_84 rfl rfl (by decide) (by decide) (Nat.le_of_ble_eq_true rfl) ?_
    rw [cps_of hI (by omega)]
    exact r_iret C hr dX9_count_87 (by decide) (by decide) ⟨by rw [hs, if_neg (by omega), if_neg (by omega), if_neg (by omega), if_neg (by omega), if_neg (by omega), if_neg (by omega), if_pos hw1], rfl, rfl⟩
  ·
    refine r_tsin (q := 88) (j := 7) C dX9_count_1 (by omega) (by omega) (by decide) rfl (by decide) ?_
    refine r_al0 (q := 89) C dX9_count_88 rfl ?_
    refine r_iconst (q := 90) C dX9_count_89 rfl ?_
    refine r_callV1 (q := 93) C (c_X9_loans (z := 1) hM hI (Or.inr rfl)) m_X9_285 (by assumption) (by omega) dX9_count_90 rfl rfl (by decide) (by decide) (Nat.le_of_ble_eq_true rfl) ?_
    exact r_iret C hr dX9_count_93 (by decide) (by decide) ⟨by rw [hs, if_neg (by omega), if_neg (by omega), if_neg (by omega), if_neg (by omega), if_neg (by omega), if_neg (by omega), if_neg (by omega), if_pos hw1]; rfl, rfl, rfl⟩
  ·
    refine r_tsin (q := 94) (j := 8) C dX9_count_1 (by omega) (by omega) (by decide) rfl (by decide) ?_
    refine r_al0 (q := 95) C dX9_count_94 rfl ?_
    refine r_getR (q := 98) C f_X9_9 dX9_count_95 rfl rfl (by assumption) (by assumption) (by omega) ?_
    refine r_iconst (q := 99) C dX9_count_98 rfl ?_
    refine r_iald (q := 100) C (2) dX9_count_99 rfl (by assumption) (by omega) (by omega) (by omega) (by decide) ?_
    exact r_iret C hr dX9_count_100 (by decide) (by decide) ⟨by rw [hs, if_neg (by omega), if_neg (by omega), if_neg (by omega), if_neg (by omega), if_neg (by omega), if_neg (by omega), if_neg (by omega), if_neg (by omega), if_pos hw1], rfl, rfl⟩
  ·
    refine r_tsin (q := 101) (j := 9) C dX9_count_1 (by omega) (by omega) (by decide) rfl (by decide) ?_
    refine r_al0 (q := 102) C dX9_count_101 rfl ?_
    refine r_getI (q := 105) C f_X9_23 dX9_count_102 rfl rfl (by assumption) (by omega) ?_
    exact r_iret C hr dX9_count_105 (by decide) (by decide) ⟨by rw [hs, if_neg (by omega), if_neg (by omega), if_neg (by omega), if_neg (by omega), if_neg (by omega), if_neg (by omega), if_neg (by omega), if_neg (by omega), if_neg (by omega), if_pos hw1], rfl, rfl⟩
  ·
    refine r_tsin (q := 106) (j := 10) C dX9_count_1 (by omega) (by omega) (by decide) rfl (by decide) ?_
    refine r_al0 (q := 107) C dX9_count_106 rfl ?_
    refine r_getI (q := 110) C f_X9_76 dX9_count_107 rfl rfl (by assumption) (by omega) ?_
    exact r_iret C hr dX9_count_110 (by decide) (by decide) ⟨by rw [hs, if_neg (by omega), if_neg (by omega), if_neg (by omega), if_neg (by omega), if_neg (by omega), if_neg (by omega), if_neg (by omega), if_neg (by omega), if_neg (by omega), if_neg (by omega), if_pos hw1], rfl, rfl⟩
  ·
    refine r_tsout (q := 111) C dX9_count_1 (by omega) (by omega) (by decide) ?_
    refine r_iconst (q := 112) C dX9_count_111 rfl ?_
    exact r_iret C hr dX9_count_112 (by decide) (by decide) ⟨by rw [hs, if_neg (by omega), if_neg (by omega), if_neg (by omega), if_neg (by omega), if_neg (by omega), if_neg (by omega), if_neg (by omega), if_neg (by omega), if_neg (by omega), if_neg (by omega), if_neg (by omega)], rfl, rfl⟩
