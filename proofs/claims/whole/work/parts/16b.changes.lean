set_option maxRecDepth 20000 in
set_option maxHeartbeats 8000000 in
theorem c_X8_setTempo {T : oT} {σ : oM} {xC : Nat} {A : Nat → Int} {Bd : Int} (hX : oX T xC) (hR : oHR σ (xC + 1) A) (hI : oI Bd A) {z v w : Int} (hz : o_r z) (hv : o_r v) (hw : o_r w) : MS yX8_setTempo cX8_setTempo 5 (some FieldType.int) 3 0 0 65 [og xC, oi z, oi v, oi w] T σ (oPs (fun zx σ2 => zx = (fTempo A z v w).1 ∧ oCh σ σ2 xC (fTempo A z v w).2 (σ xC 10)) T) := by
  have hXc := hX
  obtain ⟨hX0, hXr0, hXr1, hXr2, hXr3, hXr4, hXr5, hXr6, hXn, hXs, hXy, hXq, hXk, hXb, hXbs, hXi, hXT⟩ := hXc
  have hHc := hXn
  obtain ⟨hH0, hH1, hH2, hH3, hH4, hH6, hG1, hG80, hG81, hG82, hG83, hEs, hLs, hHT⟩ := hHc
  have hRc := hR
  obtain ⟨hR0, hR5, hR7, hRw8, hRp, hRl, hRe⟩ := hRc
  have hIn := oI_n hI
  have hIc := hI
  obtain ⟨hI1, hI2, hI3, hI4, hI5, hI6, hI7, hI8, -⟩ := hIc
  refine o_met (by decide +kernel) (Nat.le_of_ble_eq_true rfl) (fun p l ee s m args below meth c G b C hr hn => ?_)
  have C : oCx p s m args meth c G b RX8 cX8_setTempo 5 := C
  show oW p l ee ({ frames := 3, cells := 0, slots := 0, locals := 65 } : Room) s m args below meth c G b 5 0 0 (MQ below (o_Qc G b (oPs (fun zx σ2 => zx = (fTempo A z v w).1 ∧ oCh σ σ2 xC (fTempo A z v w).2 (σ xC 10)) T)) args s 0 0 (fun q => b ≤ q)) T σ 0 [some (og xC), some (oi z), some (oi v), some (oi w), none] []
  refine r_al0 (q := 1) C dX8_setTempo_0 rfl ?_
  refine r_il1 (q := 2) C dX8_setTempo_1 rfl ?_
  refine r_il2 (q := 3) C dX8_setTempo_2 rfl ?_
  refine r_callVb (q := 6) C (c_X8_isBar hX hR hI (by omega) (by omega)) m_X8_103 (by assumption) (by omega) dX8_setTempo_3 rfl rfl (by decide) (by decide) (Nat.le_of_ble_eq_true rfl) (fun br3 => ?_) (fun br3 => ?_)
  · refine r_ifne_t (q := 11) C (by decide) (by omega) dX8_setTempo_6 (by decide) ?_
    refine r_il3 (q := 12) C dX8_setTempo_11 rfl ?_
    refine r_ifeq (q := 31) (q2 := 15) C (by omega) dX8_setTempo_12 (by decide) rfl (fun br12 => ?_) (fun br12 => ?_)
    · have hs := fTempo.eq_1 A z v w
      rw [if_pos br3, if_neg (by omega)] at hs
      obtain ⟨eN, bN, rfl, rfl, heN, heN6, hbN1, hbN2, hbN9⟩ := isBr_n hI br3
      have hEj0 := (hEs eN (by omega)).1
      have hEd := (hEs eN (by omega)).2
      have hEj1 := hEd.1
      have hRE := oHR_e hR (ex := eN) (by omega)
      have hIE := oI_b hI (ex := eN) (by omega)
      obtain ⟨hRE0, hRE1, hRE2⟩ := hRE
      have hREc : ∀ ix, ix < 6 → _ := fun ix hi => oHR_c hR (ex := eN) (ix := ix) (by omega) hi
      have hREb : ∀ jx, 1 ≤ jx → jx ≤ nBr A eN → _ := fun jx j1 j2 => oHR_b hR (ex := eN) (jx := jx) (by omega) j1 j2
      have hEdc := hEd
      obtain ⟨hE0, hE3, hE4, hE5, hE6, hE7, hE8, hE9, hE10, hA1, hA2, hA3, hA4, hA5, hRw, hA10, hA11, hA12, hTe⟩ := hEdc
      obtain ⟨hb1, hb2, hb3, hb4, hb5⟩ := hREb bN hbN1 hbN2
      have htm : ∀ j, 1 ≤ j → j ≤ bN → σ (xC + 1 + 2 + 13 * eN + 4) j = A (193 + 813 * eN + 8 * j) := fun j h1 h2 => (hREb j h1 (by omega)).2.2.2.1
      have htr : o_r (σ (xC + 1 + 2 + 13 * eN + 4) bN) := by
        rw [htm bN hbN1 (by omega)]
        have := (hIE.1.2.2.2.2 bN hbN1 hbN2).2.2.2.1
        omega
      rw [Int.toNat_natCast, Int.toNat_natCast] at hs
      have hnew := oHR_upB (rN := 4) (kN := 3) (bN := bN) (tx := w) hR hIn.2.2.1 hIn.2.2.2 (fun ex he => (oI_b hI he).2.2.2) heN hbN1 (by omega) (by omega)
      rw [show 190 + 813 * eN + 8 * bN + 3 = 193 + 813 * eN + 8 * bN by omega] at hnew
      refine r_al0 (q := 32) C dX8_setTempo_31 rfl ?_
      refine r_getR (q := 35) C f_X8_10 dX8_setTempo_32 rfl rfl (by assumption) (by assumption) (by omega) ?_
      refine r_getR (q := 38) C f_X8_107 dX8_setTempo_35 rfl rfl (by assumption) (by assumption) (by omega) ?_
      refine r_il1 (q := 39) C dX8_setTempo_38 rfl ?_
      refine r_aald (q := 40) C (eN) dX8_setTempo_39 rfl (by assumption) (by omega) (by omega) (by omega) (by decide) hEj0 rfl rfl (by decide) (by decide) ?_
      refine r_il2 (q := 41) C dX8_setTempo_40 rfl ?_
      refine r_callV1 (q := 44) C (c_X4_ownTempo (fx := bN) hEd (by omega) htr) m_X8_173 (by assumption) (by omega) dX8_setTempo_41 rfl rfl (by decide) (by decide) (Nat.le_of_ble_eq_true rfl) ?_
      refine r_is4 (q := 46) C dX8_setTempo_44 rfl (by decide) ?_
      refine r_al0 (q := 47) C dX8_setTempo_46 rfl ?_
      refine r_getR (q := 50) C f_X8_10 dX8_setTempo_47 rfl rfl (by assumption) (by assumption) (by omega) ?_
      refine r_getR (q := 53) C f_X8_107 dX8_setTempo_50 rfl rfl (by assumption) (by assumption) (by omega) ?_
      refine r_il1 (q := 54) C dX8_setTempo_53 rfl ?_
      refine r_aald (q := 55) C (eN) dX8_setTempo_54 rfl (by assumption) (by omega) (by omega) (by omega) (by decide) hEj0 rfl rfl (by decide) (by decide) ?_
      refine r_getR (q := 58) C f_X8_214 dX8_setTempo_55 rfl rfl (by assumption) (by assumption) (by omega) ?_
      refine r_il2 (q := 59) C dX8_setTempo_58 rfl ?_
      refine r_il3 (q := 60) C dX8_setTempo_59 rfl ?_
      refine r_iast (q := 61) C (bN) dX8_setTempo_60 rfl (by assumption) (by omega) (by omega) (by omega) (by decide) ?_
      refine r_il4 (q := 63) C dX8_setTempo_61 rfl ?_
      exact r_iret C hr dX8_setTempo_63 (by decide) (by decide) ⟨_, rfl, rfl, by rw [hs, htm bN hbN1 (by omega)], by rw [hs]; exact oCh_up hnew (by omega) (by omega)⟩
    · refine r_il3 (q := 16) C dX8_setTempo_15 rfl ?_
      refine r_sipush (q := 19) C dX8_setTempo_16 (by decide) rfl ?_
      refine r_sipush (q := 22) C dX8_setTempo_19 (by decide) rfl ?_
      refine r_callSb (q := 25) C (c_X8_within hw (by omega) (by omega)) m_X8_68 dX8_setTempo_22 rfl rfl (by decide) (by decide) (Nat.le_of_ble_eq_true rfl) (fun br22 => ?_) (fun br22 => ?_)
      · refine r_ifne_t (q := 31) C (by decide) (by omega) dX8_setTempo_25 (by decide) ?_
        have hs := fTempo.eq_1 A z v w
        rw [if_pos br3, if_neg (by omega)] at hs
        obtain ⟨eN, bN, rfl, rfl, heN, heN6, hbN1, hbN2, hbN9⟩ := isBr_n hI br3
        have hEj0 := (hEs eN (by omega)).1
        have hEd := (hEs eN (by omega)).2
        have hEj1 := hEd.1
        have hRE := oHR_e hR (ex := eN) (by omega)
        have hIE := oI_b hI (ex := eN) (by omega)
        obtain ⟨hRE0, hRE1, hRE2⟩ := hRE
        have hREc : ∀ ix, ix < 6 → _ := fun ix hi => oHR_c hR (ex := eN) (ix := ix) (by omega) hi
        have hREb : ∀ jx, 1 ≤ jx → jx ≤ nBr A eN → _ := fun jx j1 j2 => oHR_b hR (ex := eN) (jx := jx) (by omega) j1 j2
        have hEdc := hEd
        obtain ⟨hE0, hE3, hE4, hE5, hE6, hE7, hE8, hE9, hE10, hA1, hA2, hA3, hA4, hA5, hRw, hA10, hA11, hA12, hTe⟩ := hEdc
        obtain ⟨hb1, hb2, hb3, hb4, hb5⟩ := hREb bN hbN1 hbN2
        have htm : ∀ j, 1 ≤ j → j ≤ bN → σ (xC + 1 + 2 + 13 * eN + 4) j = A (193 + 813 * eN + 8 * j) := fun j h1 h2 => (hREb j h1 (by omega)).2.2.2.1
        have htr : o_r (σ (xC + 1 + 2 + 13 * eN + 4) bN) := by
          rw [htm bN hbN1 (by omega)]
          have := (hIE.1.2.2.2.2 bN hbN1 hbN2).2.2.2.1
          omega
        rw [Int.toNat_natCast, Int.toNat_natCast] at hs
        have hnew := oHR_upB (rN := 4) (kN := 3) (bN := bN) (tx := w) hR hIn.2.2.1 hIn.2.2.2 (fun ex he => (oI_b hI he).2.2.2) heN hbN1 (by omega) (by omega)
        rw [show 190 + 813 * eN + 8 * bN + 3 = 193 + 813 * eN + 8 * bN by omega] at hnew
        refine r_al0 (q := 32) C dX8_setTempo_31 rfl ?_
        refine r_getR (q := 35) C f_X8_10 dX8_setTempo_32 rfl rfl (by assumption) (by assumption) (by omega) ?_
        refine r_getR (q := 38) C f_X8_107 dX8_setTempo_35 rfl rfl (by assumption) (by assumption) (by omega) ?_
        refine r_il1 (q := 39) C dX8_setTempo_38 rfl ?_
        refine r_aald (q := 40) C (eN) dX8_setTempo_39 rfl (by assumption) (by omega) (by omega) (by omega) (by decide) hEj0 rfl rfl (by decide) (by decide) ?_
        refine r_il2 (q := 41) C dX8_setTempo_40 rfl ?_
        refine r_callV1 (q := 44) C (c_X4_ownTempo (fx := bN) hEd (by omega) htr) m_X8_173 (by assumption) (by omega) dX8_setTempo_41 rfl rfl (by decide) (by decide) (Nat.le_of_ble_eq_true rfl) ?_
        refine r_is4 (q := 46) C dX8_setTempo_44 rfl (by decide) ?_
        refine r_al0 (q := 47) C dX8_setTempo_46 rfl ?_
        refine r_getR (q := 50) C f_X8_10 dX8_setTempo_47 rfl rfl (by assumption) (by assumption) (by omega) ?_
        refine r_getR (q := 53) C f_X8_107 dX8_setTempo_50 rfl rfl (by assumption) (by assumption) (by omega) ?_
        refine r_il1 (q := 54) C dX8_setTempo_53 rfl ?_
        refine r_aald (q := 55) C (eN) dX8_setTempo_54 rfl (by assumption) (by omega) (by omega) (by omega) (by decide) hEj0 rfl rfl (by decide) (by decide) ?_
        refine r_getR (q := 58) C f_X8_214 dX8_setTempo_55 rfl rfl (by assumption) (by assumption) (by omega) ?_
        refine r_il2 (q := 59) C dX8_setTempo_58 rfl ?_
        refine r_il3 (q := 60) C dX8_setTempo_59 rfl ?_
        refine r_iast (q := 61) C (bN) dX8_setTempo_60 rfl (by assumption) (by omega) (by omega) (by omega) (by decide) ?_
        refine r_il4 (q := 63) C dX8_setTempo_61 rfl ?_
        exact r_iret C hr dX8_setTempo_63 (by decide) (by decide) ⟨_, rfl, rfl, by rw [hs, htm bN hbN1 (by omega)], by rw [hs]; exact oCh_up hnew (by omega) (by omega)⟩
      · refine r_ifne_f (q := 31) (q2 := 28) C (by decide) (by omega) dX8_setTempo_25 (by decide) rfl ?_
        refine r_bipush (q := 30) C dX8_setTempo_28 (by decide) rfl ?_
        exact r_iret C hr dX8_setTempo_30 (by decide) (by decide) ⟨_, rfl, rfl, by rw [fTempo, if_pos br3, if_pos ⟨by omega, by omega⟩], by rw [fTempo, if_pos br3, if_pos ⟨by omega, by omega⟩]; exact oCh_rf hR⟩
  · refine r_ifne_f (q := 11) (q2 := 9) C (by decide) (by omega) dX8_setTempo_6 (by decide) rfl ?_
    refine r_iconst (q := 10) C dX8_setTempo_9 rfl ?_
    exact r_iret C hr dX8_setTempo_10 (by decide) (by decide) ⟨_, rfl, rfl, by rw [fTempo, if_neg br3], by rw [fTempo, if_neg br3]; exact oCh_rf hR⟩
set_option maxRecDepth 20000 in
set_option maxHeartbeats 8000000 in
theorem c_X8_setBowing {T : oT} {σ : oM} {xC : Nat} {A : Nat → Int} {Bd : Int} (hX : oX T xC) (hR : oHR σ (xC + 1) A) (hI : oI Bd A) {z v u w : Int} (hz : o_r z) (hv : o_r v) (hu : o_r u) (hw : o_r w) : MS yX8_setBowing cX8_setBowing 7 (some FieldType.int) 3 0 0 65 [og xC, oi z, oi v, oi u, oi w] T σ (oPs (fun zx σ2 => zx = (fBow A z v u w).1 ∧ oCh σ σ2 xC (fBow A z v u w).2 (σ xC 10)) T) := by
  have hXc := hX
  obtain ⟨hX0, hXr0, hXr1, hXr2, hXr3, hXr4, hXr5, hXr6, hXn, hXs, hXy, hXq, hXk, hXb, hXbs, hXi, hXT⟩ := hXc
  have hHc := hXn
  obtain ⟨hH0, hH1, hH2, hH3, hH4, hH6, hG1, hG80, hG81, hG82, hG83, hEs, hLs, hHT⟩ := hHc
  have hRc := hR
  obtain ⟨hR0, hR5, hR7, hRw8, hRp, hRl, hRe⟩ := hRc
  have hIn := oI_n hI
  have hIc := hI
  obtain ⟨hI1, hI2, hI3, hI4, hI5, hI6, hI7, hI8, -⟩ := hIc
  refine o_met (by decide +kernel) (Nat.le_of_ble_eq_true rfl) (fun p l ee s m args below meth c G b C hr hn => ?_)
  have C : oCx p s m args meth c G b RX8 cX8_setBowing 7 := C
  show oW p l ee ({ frames := 3, cells := 0, slots := 0, locals := 65 } : Room) s m args below meth c G b 7 0 0 (MQ below (o_Qc G b (oPs (fun zx σ2 => zx = (fBow A z v u w).1 ∧ oCh σ σ2 xC (fBow A z v u w).2 (σ xC 10)) T)) args s 0 0 (fun q => b ≤ q)) T σ 0 [some (og xC), some (oi z), some (oi v), some (oi u), some (oi w), none, none] []
  refine r_al0 (q := 1) C dX8_setBowing_0 rfl ?_
  refine r_il1 (q := 2) C dX8_setBowing_1 rfl ?_
  refine r_il3 (q := 3) C dX8_setBowing_2 rfl ?_
  refine r_callVb (q := 6) C (c_X8_isBar hX hR hI (by omega) (by omega)) m_X8_103 (by assumption) (by omega) dX8_setBowing_3 rfl rfl (by decide) (by decide) (Nat.le_of_ble_eq_true rfl) (fun br3 => ?_) (fun br3 => ?_)
  · refine r_ifeq_f (q := 16) (q2 := 9) C (by decide) (by omega) dX8_setBowing_6 (by decide) rfl ?_
    refine r_il2 (q := 10) C dX8_setBowing_9 rfl ?_
    refine r_callSb (q := 13) C (c_X8_isString (by omega)) m_X8_256 dX8_setBowing_10 rfl rfl (by decide) (by decide) (Nat.le_of_ble_eq_true rfl) (fun br10 => ?_) (fun br10 => ?_)
    · refine r_ifne_t (q := 18) C (by decide) (by omega) dX8_setBowing_13 (by decide) ?_
      refine r_il4 (q := 20) C dX8_setBowing_18 rfl ?_
      refine r_iconst (q := 21) C dX8_setBowing_20 rfl ?_
      refine r_iconst (q := 22) C dX8_setBowing_21 rfl ?_
      refine r_callSb (q := 25) C (c_X8_within hw (by omega) (by omega)) m_X8_68 dX8_setBowing_22 rfl rfl (by decide) (by decide) (Nat.le_of_ble_eq_true rfl) (fun br22 => ?_) (fun br22 => ?_)
      · refine r_ifne_t (q := 31) C (by decide) (by omega) dX8_setBowing_25 (by decide) ?_
        have hs := fBow.eq_1 A z v u w
        rw [if_pos ⟨br3, br10⟩, if_pos br22] at hs
        obtain ⟨eN, bN, rfl, rfl, heN, heN6, hbN1, hbN2, hbN9⟩ := isBr_n hI br3
        have hEj0 := (hEs eN (by omega)).1
        have hEd := (hEs eN (by omega)).2
        have hEj1 := hEd.1
        have hRE := oHR_e hR (ex := eN) (by omega)
        have hIE := oI_b hI (ex := eN) (by omega)
        obtain ⟨hRE0, hRE1, hRE2⟩ := hRE
        have hREc : ∀ ix, ix < 6 → _ := fun ix hi => oHR_c hR (ex := eN) (ix := ix) (by omega) hi
        have hREb : ∀ jx, 1 ≤ jx → jx ≤ nBr A eN → _ := fun jx j1 j2 => oHR_b hR (ex := eN) (jx := jx) (by omega) j1 j2
        have hEdc := hEd
        obtain ⟨hE0, hE3, hE4, hE5, hE6, hE7, hE8, hE9, hE10, hA1, hA2, hA3, hA4, hA5, hRw, hA10, hA11, hA12, hTe⟩ := hEdc
        obtain ⟨hb1, hb2, hb3, hb4, hb5⟩ := hREb bN hbN1 hbN2
        obtain ⟨iN, rfl⟩ : ∃ iN : Nat, v = (iN : Int) := ⟨v.toNat, by omega⟩
        have hrw := hRw iN (by omega)
        have hrw2 := hrw.2
        rw [Int.toNat_natCast, Int.toNat_natCast, Int.toNat_natCast] at hs
        have hnew := oHR_upB (rN := 6 + iN) (kN := 4 + iN) (bN := bN) (tx := w) hR hIn.2.2.1 hIn.2.2.2 (fun ex he => (oI_b hI he).2.2.2) heN hbN1 (by omega) (by omega)
        rw [show 190 + 813 * eN + 8 * bN + (4 + iN) = 194 + 813 * eN + 8 * bN + iN by omega, show xC + 1 + 2 + 13 * eN + (6 + iN) = xC + 1 + 2 + 13 * eN + 6 + iN by omega] at hnew
        refine r_al0 (q := 32) C dX8_setBowing_31 rfl ?_
        refine r_getR (q := 35) C f_X8_10 dX8_setBowing_32 rfl rfl (by assumption) (by assumption) (by omega) ?_
        refine r_getR (q := 38) C f_X8_107 dX8_setBowing_35 rfl rfl (by assumption) (by assumption) (by omega) ?_
        refine r_il1 (q := 39) C dX8_setBowing_38 rfl ?_
        refine r_aald (q := 40) C (eN) dX8_setBowing_39 rfl (by assumption) (by omega) (by omega) (by omega) (by decide) hEj0 rfl rfl (by decide) (by decide) ?_
        refine r_getR (q := 43) C f_X8_259 dX8_setBowing_40 rfl rfl (by assumption) (by assumption) (by omega) ?_
        refine r_il2 (q := 44) C dX8_setBowing_43 rfl ?_
        refine r_aald (q := 45) C (iN) dX8_setBowing_44 rfl (by assumption) (by omega) (by omega) (by omega) (by decide) hrw.1 rfl rfl (by decide) (by decide) ?_
        refine r_as5 (q := 47) C dX8_setBowing_45 rfl (by decide) ?_
        refine r_al5 (q := 49) C dX8_setBowing_47 rfl ?_
        refine r_il3 (q := 50) C dX8_setBowing_49 rfl ?_
        refine r_iald (q := 51) C (bN) dX8_setBowing_50 rfl (by assumption) (by omega) (by omega) (by omega) (by decide) ?_
        refine r_is6 (q := 53) C dX8_setBowing_51 rfl (by decide) ?_
        refine r_al5 (q := 55) C dX8_setBowing_53 rfl ?_
        refine r_il3 (q := 56) C dX8_setBowing_55 rfl ?_
        refine r_il4 (q := 58) C dX8_setBowing_56 rfl ?_
        refine r_iast (q := 59) C (bN) dX8_setBowing_58 rfl (by assumption) (by omega) (by omega) (by omega) (by decide) ?_
        refine r_il6 (q := 61) C dX8_setBowing_59 rfl ?_
        exact r_iret C hr dX8_setBowing_61 (by decide) (by decide) ⟨_, rfl, rfl, by rw [hs, hb5 iN (by omega)], by rw [hs]; exact oCh_up hnew (by omega) (by omega)⟩
      · refine r_ifne_f (q := 31) (q2 := 28) C (by decide) (by omega) dX8_setBowing_25 (by decide) rfl ?_
        refine r_bipush (q := 30) C dX8_setBowing_28 (by decide) rfl ?_
        exact r_iret C hr dX8_setBowing_30 (by decide) (by decide) ⟨_, rfl, rfl, by rw [fBow, if_pos ⟨br3, br10⟩, if_neg br22], by rw [fBow, if_pos ⟨br3, br10⟩, if_neg br22]; exact oCh_rf hR⟩
    · refine r_ifne_f (q := 18) (q2 := 16) C (by decide) (by omega) dX8_setBowing_13 (by decide) rfl ?_
      refine r_iconst (q := 17) C dX8_setBowing_16 rfl ?_
      exact r_iret C hr dX8_setBowing_17 (by decide) (by decide) ⟨_, rfl, rfl, by rw [fBow, if_neg (fun hc => br10 hc.2)], by rw [fBow, if_neg (fun hc => br10 hc.2)]; exact oCh_rf hR⟩
  · refine r_ifeq_t (q := 16) C (by decide) (by omega) dX8_setBowing_6 (by decide) ?_
    refine r_iconst (q := 17) C dX8_setBowing_16 rfl ?_
    exact r_iret C hr dX8_setBowing_17 (by decide) (by decide) ⟨_, rfl, rfl, by rw [fBow, if_neg (fun hc => br3 hc.1)], by rw [fBow, if_neg (fun hc => br3 hc.1)]; exact oCh_rf hR⟩
