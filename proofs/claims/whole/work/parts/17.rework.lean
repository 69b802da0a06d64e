set_option maxRecDepth 20000 in
set_option maxHeartbeats 8000000 in
theorem c_X8_reworkBar {T : oT} {σ : oM} {xC : Nat} {A : Nat → Int} {Bd : Int} (hX : oX T xC) (hR : oHR σ (xC + 1) A) (hI : oI Bd A) (hBd : Bd ≤ 99999999) {z v w : Int} (hz : o_r z) (hv : o_r v) (hw : o_r w) : MS yX8_reworkBar cX8_reworkBar 5 (some FieldType.int) 3 0 0 65 [og xC, oi z, oi v, oi w] T σ (oPs (fun zx σ2 => zx = (fRew A (σ xC 10) z v w).1 ∧ oCh σ σ2 xC (fRew A (σ xC 10) z v w).2.1 (fRew A (σ xC 10) z v w).2.2) T) := by
  have hXc := hX
  obtain ⟨hX0, hXr0, hXr1, hXr2, hXr3, hXr4, hXr5, hXr6, hXn, hXs, hXy, hXq, hXk, hXb, hXbs, hXi, hXT⟩ := hXc
  have hHc := hXn
  obtain ⟨hH0, hH1, hH2, hH3, hH4, hH6, hG1, hG80, hG81, hG82, hG83, hEs, hLs, hHT⟩ := hHc
  have hRc := hR
  obtain ⟨hR0, hR5, hR7, hRw8, hRp, hRl, hRe⟩ := hRc
  have hIn := oI_n hI
  have hIc := hI
  obtain ⟨hI1, hI2, hI3, hI4, hI5, hI6, hI7, hI8, -⟩ := hIc
  refine o_met (by decide +kernel) (Nat.le_of_ble_eq_true rfl) (fun p l ee s m args below meth c G b C hr hn => ?_)
  have C : oCx p s m args meth c G b RX8 cX8_reworkBar 5 := C
  show oW p l ee ({ frames := 3, cells := 0, slots := 0, locals := 65 } : Room) s m args below meth c G b 5 0 0 (MQ below (o_Qc G b (oPs (fun zx σ2 => zx = (fRew A (σ xC 10) z v w).1 ∧ oCh σ σ2 xC (fRew A (σ xC 10) z v w).2.1 (fRew A (σ xC 10) z v w).2.2) T)) args s 0 0 (fun q => b ≤ q)) T σ 0 [some (og xC), some (oi z), some (oi v), some (oi w), none] []
  refine r_al0 (q := 1) C dX8_reworkBar_0 rfl ?_
  refine r_il1 (q := 2) C dX8_reworkBar_1 rfl ?_
  refine r_il2 (q := 3) C dX8_reworkBar_2 rfl ?_
  refine r_callVb (q := 6) C (c_X8_isBar hX hR hI (by omega) (by omega)) m_X8_103 (by assumption) (by omega) dX8_reworkBar_3 rfl rfl (by decide) (by decide) (Nat.le_of_ble_eq_true rfl) (fun br3 => ?_) (fun br3 => ?_)
  · refine r_ifne_t (q := 11) C (by decide) (by omega) dX8_reworkBar_6 (by decide) ?_
    refine r_il3 (q := 12) C dX8_reworkBar_11 rfl ?_
    refine r_iconst (q := 13) C dX8_reworkBar_12 rfl ?_
    refine r_bipush (q := 15) C dX8_reworkBar_13 (by decide) rfl ?_
    refine r_callSb (q := 18) C (c_X8_within hw (by omega) (by omega)) m_X8_68 dX8_reworkBar_15 rfl rfl (by decide) (by decide) (Nat.le_of_ble_eq_true rfl) (fun br15 => ?_) (fun br15 => ?_)
    · refine r_ifne_t (q := 24) C (by decide) (by omega) dX8_reworkBar_18 (by decide) ?_
      have hs := fRew.eq_1 A (σ xC 10) z v w
      rw [if_pos br3, if_pos br15] at hs
      obtain ⟨eN, bN, rfl, rfl, heN, heN6, hbN1, hbN2, hbN9⟩ := isBr_n hI br3
      have hEj0 := (hEs eN (by omega)).1
      have hEd := (hEs eN (by omega)).2
      have hEj1 := hEd.1
      have hRE := oHR_e hR (ex := eN) (by omega)
      have hIE := oI_b hI (ex := eN) (by omega)
      obtain ⟨hRE0, hRE1, hRE2⟩ := hRE
      have hREc : ∀ ix, ix < 6 → _ := fun ix hi => oHR_c hR (ex := eN) (ix := ix) (by omega) hi
      have hREb : ∀ jx, 1 ≤ jx → jx ≤ nBr A eN → _ := fun jx j1 j2 => oHR_b hR (ex := eN) (jx := jx) (by omega) j1 j2
      have hEdc := hEd
      obtain ⟨hE0, hE3, hE4, hE5, hE6, hE7, hE8, hE9, hE10, hA1, hA2, hA3, hA4, hA5, hRw, hA10, hA11, hA12, hTe⟩ := hEdc
      obtain ⟨hb1, hb2, hb3, hb4, hb5⟩ := hREb bN hbN1 hbN2
      rw [Int.toNat_natCast, Int.toNat_natCast] at hs
      obtain ⟨wN, hwn⟩ : ∃ wN : Nat, A (177 + 813 * eN) = (wN : Int) := ⟨(A (177 + 813 * eN)).toNat, by have := hIE.1.1; omega⟩
      have hw4 : wN < 4 := by have := hIE.1.1; omega
      rw [hwn, Int.toNat_natCast] at hs
      have hgv := (hRw8 wN hw4).2
      have hgb := (hI5 wN hw4).2
      refine r_al0 (q := 25) C dX8_reworkBar_24 rfl ?_
      refine r_getR (q := 28) C f_X8_10 dX8_reworkBar_25 rfl rfl (by assumption) (by assumption) (by omega) ?_
      refine r_getR (q := 31) C f_X8_107 dX8_reworkBar_28 rfl rfl (by assumption) (by assumption) (by omega) ?_
      refine r_il1 (q := 32) C dX8_reworkBar_31 rfl ?_
      refine r_aald (q := 33) C (eN) dX8_reworkBar_32 rfl (by assumption) (by omega) (by omega) (by omega) (by decide) hEj0 rfl rfl (by decide) (by decide) ?_
      refine r_as4 (q := 35) C dX8_reworkBar_33 rfl (by decide) ?_
      refine r_al4 (q := 37) C dX8_reworkBar_35 rfl ?_
      refine r_callVb (q := 40) C (c_X4_isBought hEd (fun i hi => by obtain ⟨q1, q2, q3⟩ := hREc i hi; have := hIE.1.2.2.2.1 i hi; rw [q1, q2, q3]; omega)) m_X8_116 (by assumption) (by omega) dX8_reworkBar_37 rfl rfl (by decide) (by decide) (Nat.le_of_ble_eq_true rfl) (fun br37 => ?_) (fun br37 => ?_)
      · refine r_ifeq_f (q := 49) (q2 := 43) C (by decide) (by omega) dX8_reworkBar_40 (by decide) rfl ?_
        rw [bought_of hR heN] at br37
        rw [if_pos br37] at hs
        refine r_al0 (q := 44) C dX8_reworkBar_43 rfl ?_
        refine r_iconst (q := 45) C dX8_reworkBar_44 rfl ?_
        refine r_callVs (q := 48) C (c_X8_refuse hX) m_X8_120 (by assumption) (by omega) dX8_reworkBar_45 rfl rfl (by decide) (by decide) (Nat.le_of_ble_eq_true rfl) (fun z2 σ2 hσ2 => ?_)
        refine r_iret C hr dX8_reworkBar_48 (by decide) (by decide) ?_
        obtain ⟨rfl, rfl⟩ := hσ2
        exact ⟨_, rfl, rfl, by rw [hs], by rw [hs]; exact oCh_no hR ⟨hIn.2.2.1, hIn.2.2.2⟩⟩
      · refine r_ifeq_t (q := 49) C (by decide) (by omega) dX8_reworkBar_40 (by decide) ?_
        rw [bought_of hR heN] at br37
        rw [if_neg br37] at hs
        have hJ0 := oI_grow hI (B2 := Bd + 1) (by omega) (by omega)
        have hJ1 := oI_upV (wN := wN) (tx := (A (7 + wN) + 1)) hJ0 hw4 (by omega)
        have hne1 : nEd (updF A (7 + wN) (A (7 + wN) + 1)) = nEd A := by
          unfold nEd
          rw [updF_ne (by omega)]
        have hK1 := oHR_upV (wN := wN) (tx := (A (7 + wN) + 1)) hR (oI_n hI).2.2.1 (oI_n hI).2.2.2 (fun ex he => (oI_b hI he).2.2.2) hw4
        have hJ2 := oI_upB (bN := bN) (kN := 1) (tx := (A (7 + wN) + 1)) hJ1 (by rw [hne1]; exact heN) hbN1 (by omega) (by omega) (by omega) (fun _ => by omega) (fun hc => by omega) (fun hc => by omega) (fun hc => by omega)
        have hK2 := oHR_upB (rN := 2) (kN := 1) (bN := bN) (tx := (A (7 + wN) + 1)) hK1 (oI_n hJ1).2.2.1 (oI_n hJ1).2.2.2 (fun ex he => (oI_b hJ1 he).2.2.2) (by rw [hne1]; exact heN) hbN1 (by omega) (by omega)
        rw [show 190 + 813 * eN + 8 * bN + 1 = 191 + 813 * eN + 8 * bN by omega] at hJ2 hK2
        have hne2 : nEd (updF (updF A (7 + wN) (A (7 + wN) + 1)) (191 + 813 * eN + 8 * bN) (A (7 + wN) + 1)) = nEd A := by
          rw [← hne1]
          unfold nEd
          rw [updF_ne (by omega)]
        have hK3 := oHR_upB (rN := 3) (kN := 2) (bN := bN) (tx := w) hK2 (oI_n hJ2).2.2.1 (oI_n hJ2).2.2.2 (fun ex he => (oI_b hJ2 he).2.2.2) (by rw [hne2]; exact heN) hbN1 (by omega) (by omega)
        rw [show 190 + 813 * eN + 8 * bN + 2 = 192 + 813 * eN + 8 * bN by omega] at hK3
        refine r_al0 (q := 50) C dX8_reworkBar_49 rfl ?_
        refine r_getR (q := 53) C f_X8_10 dX8_reworkBar_50 rfl rfl (by assumption) (by assumption) (by omega) ?_
        refine r_getR (q := 56) C f_X8_145 dX8_reworkBar_53 rfl rfl (by assumption) (by assumption) (by omega) ?_
        refine r_al4 (q := 58) C dX8_reworkBar_56 rfl ?_
        refine r_getI (q := 61) C f_X8_135 dX8_reworkBar_58 rfl rfl (by assumption) (by omega) ?_
        rw [hRE0, hwn]
        refine r_dup2 (q := 62) C dX8_reworkBar_61 rfl ?_
        refine r_iald (q := 63) C (wN) dX8_reworkBar_62 rfl (by assumption) (by omega) (by omega) (by omega) (by decide) ?_
        rw [hgv]
        refine r_iconst (q := 64) C dX8_reworkBar_63 rfl ?_
        refine r_iadd (q := 65) C dX8_reworkBar_64 rfl ?_
        refine r_iast (q := 66) C (wN) dX8_reworkBar_65 rfl (by assumption) (by omega) (by omega) (by omega) (by decide) ?_
        refine r_al4 (q := 68) C dX8_reworkBar_66 rfl ?_
        refine r_getR (q := 71) C f_X8_148 dX8_reworkBar_68 rfl rfl (by assumption) (by assumption) (by omega) ?_
        refine r_il2 (q := 72) C dX8_reworkBar_71 rfl ?_
        refine r_al0 (q := 73) C dX8_reworkBar_72 rfl ?_
        refine r_getR (q := 76) C f_X8_10 dX8_reworkBar_73 rfl rfl (by assumption) (by assumption) (by omega) ?_
        refine r_getR (q := 79) C f_X8_145 dX8_reworkBar_76 rfl rfl (by assumption) (by assumption) (by omega) ?_
        refine r_al4 (q := 81) C dX8_reworkBar_79 rfl ?_
        refine r_getI (q := 84) C f_X8_135 dX8_reworkBar_81 rfl rfl (by assumption) (by omega) ?_
        rw [show (o_up σ (xC + 1 + 81) wN (A (7 + wN) + 1)) (xC + 1 + 2 + 13 * eN) 0 = (wN : Int) by rw [o_up_ne (by omega), hRE0, hwn]]
        refine r_iald (q := 85) C (wN) dX8_reworkBar_84 rfl (by assumption) (by omega) (by omega) (by omega) (by decide) ?_
        rw [o_up_at]
        refine r_iast (q := 86) C (bN) dX8_reworkBar_85 rfl (by assumption) (by omega) (by omega) (by omega) (by decide) ?_
        refine r_al4 (q := 88) C dX8_reworkBar_86 rfl ?_
        refine r_getR (q := 91) C f_X8_151 dX8_reworkBar_88 rfl rfl (by assumption) (by assumption) (by omega) ?_
        refine r_il2 (q := 92) C dX8_reworkBar_91 rfl ?_
        refine r_il3 (q := 93) C dX8_reworkBar_92 rfl ?_
        refine r_iast (q := 94) C (bN) dX8_reworkBar_93 rfl (by assumption) (by omega) (by omega) (by omega) (by decide) ?_
        refine r_al4 (q := 96) C dX8_reworkBar_94 rfl ?_
        refine r_getR (q := 99) C f_X8_148 dX8_reworkBar_96 rfl rfl (by assumption) (by assumption) (by omega) ?_
        refine r_il2 (q := 100) C dX8_reworkBar_99 rfl ?_
        refine r_iald (q := 101) C (bN) dX8_reworkBar_100 rfl (by assumption) (by omega) (by omega) (by omega) (by decide) ?_
        exact r_iret C hr dX8_reworkBar_101 (by decide) (by decide) ⟨_, rfl, rfl, by rw [hs, o_up_ne (by omega), o_up_at], by rw [hs]; exact ⟨hK3, fun x h1 h2 => by rw [o_up_ne (by omega), o_up_ne (by omega), o_up_ne (by omega)], fun k _ => by rw [o_up_ne (by omega), o_up_ne (by omega), o_up_ne (by omega)], by rw [o_up_ne (by omega), o_up_ne (by omega), o_up_ne (by omega)]⟩⟩
    · refine r_ifne_f (q := 24) (q2 := 21) C (by decide) (by omega) dX8_reworkBar_18 (by decide) rfl ?_
      refine r_bipush (q := 23) C dX8_reworkBar_21 (by decide) rfl ?_
      exact r_iret C hr dX8_reworkBar_23 (by decide) (by decide) ⟨_, rfl, rfl, by rw [fRew, if_pos br3, if_neg br15], by rw [fRew, if_pos br3, if_neg br15]; exact oCh_rf hR⟩
  · refine r_ifne_f (q := 11) (q2 := 9) C (by decide) (by omega) dX8_reworkBar_6 (by decide) rfl ?_
    refine r_iconst (q := 10) C dX8_reworkBar_9 rfl ?_
    exact r_iret C hr dX8_reworkBar_10 (by decide) (by decide) ⟨_, rfl, rfl, by rw [fRew, if_neg br3], by rw [fRew, if_neg br3]; exact oCh_rf hR⟩
