def fBuy (A : Nat → Int) (Lh : List (Nat → Int)) (z v w : Int) : Int × (Nat → Int) × List (Nat → Int) :=
  if isEdF A z ∧ 0 ≤ v ∧ v ≤ 5 then (if 1 ≤ w ∧ w ≤ 30 then (if 30 < A (180 + 813 * z.toNat + 3 * v.toNat) + w then (-4, A, Lh)
    else (A (180 + 813 * z.toNat + 3 * v.toNat) + w, updF A (180 + 813 * z.toNat + 3 * v.toNat) (A (180 + 813 * z.toNat + 3 * v.toNat) + w), hpush Lh A)) else (-2, A, Lh)) else (-1, A, Lh)
set_option maxRecDepth 20000 in
set_option maxHeartbeats 8000000 in
theorem c_X8_buy {T : oT} {σ : oM} {xC : Nat} {A : Nat → Int} {Bd : Int} (hX : oX T xC) (hR : oHR σ (xC + 1) A) (hI : oI Bd A) {Lh : List (Nat → Int)} (hH : oHis σ (xC + 209) Lh) (hb : ∀ B ∈ Lh, nEd B ≤ 6 ∧ nLn B ≤ 20) {z v w : Int} (hz : o_r z) (hv : o_r v) (hw : o_r w) : MS yX8_buy cX8_buy 5 (some FieldType.int) 6 0 0 138 [og xC, oi z, oi v, oi w] T σ (oPs (fun zx σ2 => zx = (fBuy A Lh z v w).1 ∧ oCk σ σ2 xC (fBuy A Lh z v w).2.1 (fBuy A Lh z v w).2.2 (σ xC 10)) T) := by
  have hXc := hX
  obtain ⟨hX0, hXr0, hXr1, hXr2, hXr3, hXr4, hXr5, hXr6, hXn, hXs, hXy, hXq, hXk, hXb, hXbs, hXi, hXT⟩ := hXc
  have hHc := hXn
  obtain ⟨hH0, hH1, hH2, hH3, hH4, hH6, hG1, hG80, hG81, hG82, hG83, hEs, hLs, hHT⟩ := hHc
  have hRc := hR
  obtain ⟨hR0, hR5, hR7, hRw8, hRp, hRl, hRe⟩ := hRc
  have hIn := oI_n hI
  have hIc := hI
  obtain ⟨hI1, hI2, hI3, hI4, hI5, hI6, hI7, hI8, -⟩ := hIc
  have hY0 := hXy.1
  have hHc2 := hH
  obtain ⟨on, sn, ho, ho9, hsz, hlen, hs8, hrow⟩ := hHc2
  refine o_met (by decide +kernel) (Nat.le_of_ble_eq_true rfl) (fun p l ee s m args below meth c G b C hr hn => ?_)
  have C : oCx p s m args meth c G b RX8 cX8_buy 5 := C
  show oW p l ee ({ frames := 6, cells := 0, slots := 0, locals := 138 } : Room) s m args below meth c G b 5 0 0 (MQ below (o_Qc G b (oPs (fun zx σ2 => zx = (fBuy A Lh z v w).1 ∧ oCk σ σ2 xC (fBuy A Lh z v w).2.1 (fBuy A Lh z v w).2.2 (σ xC 10)) T)) args s 0 0 (fun q => b ≤ q)) T σ 0 [some (og xC), some (oi z), some (oi v), some (oi w), none] []
  refine r_al0 (q := 1) C dX8_buy_0 rfl ?_
  refine r_il1 (q := 2) C dX8_buy_1 rfl ?_
  refine r_callVb (q := 5) C (c_X8_isEdition hX hR hI (by omega)) m_X8_87 (by assumption) (by omega) dX8_buy_2 rfl rfl (by decide) (by decide) (Nat.le_of_ble_eq_true rfl) (fun br2 => ?_) (fun br2 => ?_)
  · refine r_ifeq_f (q := 15) (q2 := 8) C (by decide) (by omega) dX8_buy_5 (by decide) rfl ?_
    refine r_il2 (q := 9) C dX8_buy_8 rfl ?_
    refine r_callSb (q := 12) C (c_X8_isInstrument (by omega)) m_X8_238 dX8_buy_9 rfl rfl (by decide) (by decide) (Nat.le_of_ble_eq_true rfl) (fun br9 => ?_) (fun br9 => ?_)
    · refine r_ifne_t (q := 17) C (by decide) (by omega) dX8_buy_12 (by decide) ?_
      refine r_il3 (q := 18) C dX8_buy_17 rfl ?_
      refine r_iconst (q := 19) C dX8_buy_18 rfl ?_
      refine r_bipush (q := 21) C dX8_buy_19 (by decide) rfl ?_
      refine r_callSb (q := 24) C (c_X8_within hw (by omega) (by omega)) m_X8_68 dX8_buy_21 rfl rfl (by decide) (by decide) (Nat.le_of_ble_eq_true rfl) (fun br21 => ?_) (fun br21 => ?_)
      · refine r_ifne_t (q := 30) C (by decide) (by omega) dX8_buy_24 (by decide) ?_
        have hs := fBuy.eq_1 A Lh z v w
        rw [if_pos ⟨br2, br9⟩, if_pos br21] at hs
        obtain ⟨eN, rfl, heN, heN6⟩ := isEd_n hI br2
        have hEj0 := (hEs eN (by omega)).1
        have hEd := (hEs eN (by omega)).2
        have hEj1 := hEd.1
        have hRE := oHR_e hR (ex := eN) (by omega)
        have hIE := oI_b hI (ex := eN) (by omega)
        obtain ⟨hRE0, hRE1, hRE2⟩ := hRE
        have hREc : ∀ ix, ix < 6 → _ := fun ix hi => oHR_c hR (ex := eN) (ix := ix) (by omega) hi
        have hREb : ∀ jx, 1 ≤ jx → jx ≤ nBr A eN → _ := fun jx j1 j2 => oHR_b hR (ex := eN) (jx := jx) (by omega) j1 j2
        obtain ⟨iN, rfl⟩ : ∃ iN : Nat, v = (iN : Int) := ⟨v.toNat, by omega⟩
        obtain ⟨hc1, hc2, hc3⟩ := hREc iN (by omega)
        have hIc2 := hIE.1.2.2.2.1 iN (by omega)
        rw [Int.toNat_natCast, Int.toNat_natCast] at hs
        have hcp : (if (0 : Int) = 1 then σ ((xC + 1 + 2 + 13 * eN) + 10) iN else if (0 : Int) = 2 then σ ((xC + 1 + 2 + 13 * eN) + 11) iN else if (0 : Int) = 3 then σ ((xC + 1 + 2 + 13 * eN) + 12) iN else σ ((xC + 1 + 2 + 13 * eN) + 10) iN + σ ((xC + 1 + 2 + 13 * eN) + 11) iN + σ ((xC + 1 + 2 + 13 * eN) + 12) iN) = A (180 + 813 * eN + 3 * iN) := by
          show σ _ _ + σ _ _ + σ _ _ = _
          rw [hc1, hc2, hc3]
          omega
        refine r_al0 (q := 31) C dX8_buy_30 rfl ?_
        refine r_getR (q := 34) C f_X8_10 dX8_buy_31 rfl rfl (by assumption) (by assumption) (by omega) ?_
        refine r_getR (q := 37) C f_X8_107 dX8_buy_34 rfl rfl (by assumption) (by assumption) (by omega) ?_
        refine r_il1 (q := 38) C dX8_buy_37 rfl ?_
        refine r_aald (q := 39) C (eN) dX8_buy_38 rfl (by assumption) (by omega) (by omega) (by omega) (by decide) hEj0 rfl rfl (by decide) (by decide) ?_
        refine r_as4 (q := 41) C dX8_buy_39 rfl (by decide) ?_
        refine r_al4 (q := 43) C dX8_buy_41 rfl ?_
        refine r_il2 (q := 44) C dX8_buy_43 rfl ?_
        refine r_iconst (q := 45) C dX8_buy_44 rfl ?_
        refine r_callV1 (q := 48) C (c_X4_copies (ix := iN) (wx := 0) hEd (by omega) (by omega)) m_X8_247 (by assumption) (by omega) dX8_buy_45 rfl rfl (by decide) (by decide) (Nat.le_of_ble_eq_true rfl) ?_
        rw [hcp]
        refine r_il3 (q := 49) C dX8_buy_48 rfl ?_
        refine r_iadd (q := 50) C dX8_buy_49 rfl ?_
        refine r_bipush (q := 52) C dX8_buy_50 (by decide) rfl ?_
        refine r_icle (q := 58) (q2 := 55) C (by omega) (by omega) dX8_buy_52 (by decide) rfl (fun br52 => ?_) (fun br52 => ?_)
        · rw [if_neg (by omega)] at hs
          refine r_al0 (q := 59) C dX8_buy_58 rfl ?_
          refine r_getR (q := 62) C f_X8_22 dX8_buy_59 rfl rfl (by assumption) (by assumption) (by omega) ?_
          refine r_al0 (q := 63) C dX8_buy_62 rfl ?_
          refine r_getR (q := 66) C f_X8_10 dX8_buy_63 rfl rfl (by assumption) (by assumption) (by omega) ?_
          refine r_callVv (q := 69) C (c_X5_keep hXy ho ho9 hsz hs8 hXn (by omega) hR0 hIn.2.2.1 hR5 hIn.2.2.2 (fun j hj => ⟨nBr A j, (oHR_e hR hj).2.2, (oI_b hI hj).2.2.2⟩)) m_X8_79 (by assumption) (by omega) dX8_buy_66 rfl rfl (by decide) (by decide) (Nat.le_of_ble_eq_true rfl) (fun σ2 hσ2 => ?_)
          obtain ⟨σ1, hk1, hk2⟩ := hσ2
          obtain ⟨hK, hH2, hfr2⟩ := keep_of (by omega) hR ⟨hIn.2.2.1, hIn.2.2.2⟩ ho ho9 hsz hlen hs8 hrow hb hk1 hk2
          have hpb := hpush_b hb (A := A) ⟨hIn.2.2.1, hIn.2.2.2⟩
          refine r_al4 (q := 71) C dX8_buy_69 rfl ?_
          obtain ⟨-, -, -, -, -, -, hE8x, -, -, -, -, -, -, -, -, hA10x, -, -, -⟩ := id hEd
          refine r_getR (q := 74) C f_X8_250 dX8_buy_71 rfl rfl (by assumption) (by assumption) (by omega) ?_
          refine r_il2 (q := 75) C dX8_buy_74 rfl ?_
          refine r_dup2 (q := 76) C dX8_buy_75 rfl ?_
          refine r_iald (q := 77) C (iN) dX8_buy_76 rfl (by assumption) (by omega) (by omega) (by omega) (by decide) ?_
          refine r_il3 (q := 78) C dX8_buy_77 rfl ?_
          refine r_iadd (q := 79) C dX8_buy_78 rfl ?_
          obtain ⟨hd1, hd2, hd3⟩ := oHR_c hK heN (show iN < 6 by omega)
          obtain ⟨-, -, -, -, -, -, hE8, hE9, hE10, -, -, -, -, -, -, hA10, hA11, hA12, -⟩ := id hEd
          have hnew := oHR_upC (eN := eN) (iN := iN) (tx := A (180 + 813 * eN + 3 * iN) + w) hK hIn.2.2.1 hIn.2.2.2 (fun ex he => (oI_b hI he).2.2.2) heN (by omega)
          rw [show A (180 + 813 * eN + 3 * iN) + w - A (181 + 813 * eN + 3 * iN) - A (182 + 813 * eN + 3 * iN) = (σ2 ((xC + 1 + 2 + 13 * eN) + 10) iN + w) by rw [hd1]; omega] at hnew
          have hcp2 : (if (0 : Int) = 1 then (o_up σ2 ((xC + 1 + 2 + 13 * eN) + 10) iN (σ2 ((xC + 1 + 2 + 13 * eN) + 10) iN + w)) ((xC + 1 + 2 + 13 * eN) + 10) iN else if (0 : Int) = 2 then (o_up σ2 ((xC + 1 + 2 + 13 * eN) + 10) iN (σ2 ((xC + 1 + 2 + 13 * eN) + 10) iN + w)) ((xC + 1 + 2 + 13 * eN) + 11) iN else if (0 : Int) = 3 then (o_up σ2 ((xC + 1 + 2 + 13 * eN) + 10) iN (σ2 ((xC + 1 + 2 + 13 * eN) + 10) iN + w)) ((xC + 1 + 2 + 13 * eN) + 12) iN else (o_up σ2 ((xC + 1 + 2 + 13 * eN) + 10) iN (σ2 ((xC + 1 + 2 + 13 * eN) + 10) iN + w)) ((xC + 1 + 2 + 13 * eN) + 10) iN + (o_up σ2 ((xC + 1 + 2 + 13 * eN) + 10) iN (σ2 ((xC + 1 + 2 + 13 * eN) + 10) iN + w)) ((xC + 1 + 2 + 13 * eN) + 11) iN + (o_up σ2 ((xC + 1 + 2 + 13 * eN) + 10) iN (σ2 ((xC + 1 + 2 + 13 * eN) + 10) iN + w)) ((xC + 1 + 2 + 13 * eN) + 12) iN) = A (180 + 813 * eN + 3 * iN) + w := by
            show (o_up σ2 ((xC + 1 + 2 + 13 * eN) + 10) iN (σ2 ((xC + 1 + 2 + 13 * eN) + 10) iN + w)) _ _ + (o_up σ2 ((xC + 1 + 2 + 13 * eN) + 10) iN (σ2 ((xC + 1 + 2 + 13 * eN) + 10) iN + w)) _ _ + (o_up σ2 ((xC + 1 + 2 + 13 * eN) + 10) iN (σ2 ((xC + 1 + 2 + 13 * eN) + 10) iN + w)) _ _ = _
            rw [o_up_at, o_up_ne (by omega), o_up_ne (by omega), hd1, hd2, hd3]
            omega
          refine r_iast (q := 80) C (iN) dX8_buy_79 rfl (by assumption) (by omega) (by omega) (by omega) (by decide) ?_
          refine r_al4 (q := 82) C dX8_buy_80 rfl ?_
          refine r_il2 (q := 83) C dX8_buy_82 rfl ?_
          refine r_iconst (q := 84) C dX8_buy_83 rfl ?_
          refine r_callV1 (q := 87) C (c_X4_copies (ix := iN) (wx := 0) hEd (by omega) (by omega)) m_X8_247 (by assumption) (by omega) dX8_buy_84 rfl rfl (by decide) (by decide) (Nat.le_of_ble_eq_true rfl) ?_
          rw [hcp2]
          exact r_iret C hr dX8_buy_87 (by decide) (by decide) ⟨_, rfl, rfl, by rw [hs], by rw [hs]; exact ⟨hnew, oHis_fr hH2 hpb (fun x h1 h2 => o_up_ne (by omega)), fun x h1 h2 => by rw [o_up_ne (by omega)]; exact hfr2 x (by omega), fun k _ => by rw [o_up_ne (by omega), hfr2 xC (by omega)], by rw [o_up_ne (by omega), hfr2 xC (by omega)]⟩⟩
        · refine r_bipush (q := 57) C dX8_buy_55 (by decide) rfl ?_
          exact r_iret C hr dX8_buy_57 (by decide) (by decide) ⟨_, rfl, rfl, by rw [hs, if_pos (by omega)], by rw [hs, if_pos (by omega)]; exact oCk_rf hR hH⟩
      · refine r_ifne_f (q := 30) (q2 := 27) C (by decide) (by omega) dX8_buy_24 (by decide) rfl ?_
        refine r_bipush (q := 29) C dX8_buy_27 (by decide) rfl ?_
        exact r_iret C hr dX8_buy_29 (by decide) (by decide) ⟨_, rfl, rfl, by rw [fBuy, if_pos ⟨br2, br9⟩, if_neg br21], by rw [fBuy, if_pos ⟨br2, br9⟩, if_neg br21]; exact oCk_rf hR hH⟩
    · refine r_ifne_f (q := 17) (q2 := 15) C (by decide) (by omega) dX8_buy_12 (by decide) rfl ?_
      refine r_iconst (q := 16) C dX8_buy_15 rfl ?_
      exact r_iret C hr dX8_buy_16 (by decide) (by decide) ⟨_, rfl, rfl, by rw [fBuy, if_neg (fun hc => br9 hc.2)], by rw [fBuy, if_neg (fun hc => br9 hc.2)]; exact oCk_rf hR hH⟩
  · refine r_ifeq_t (q := 15) C (by decide) (by omega) dX8_buy_5 (by decide) ?_
    refine r_iconst (q := 16) C dX8_buy_15 rfl ?_
    exact r_iret C hr dX8_buy_16 (by decide) (by decide) ⟨_, rfl, rfl, by rw [fBuy, if_neg (fun hc => br2 hc.1)], by rw [fBuy, if_neg (fun hc => br2 hc.1)]; exact oCk_rf hR hH⟩
