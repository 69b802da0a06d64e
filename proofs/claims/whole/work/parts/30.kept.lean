set_option maxRecDepth 20000 in
set_option maxHeartbeats 8000000 in
theorem c_X8_edition {T : oT} {σ : oM} {xC : Nat} {A : Nat → Int} {Bd : Int} (hX : oX T xC) (hR : oHR σ (xC + 1) A) (hI : oI Bd A) (hJ : oJ A) {Lh : List (Nat → Int)} (hH : oHis σ (xC + 209) Lh) (hb : ∀ B ∈ Lh, nEd B ≤ 6 ∧ nLn B ≤ 20) {z v w : Int} (hz : o_r z) (hv : o_r v) (hw : o_r w) : MS yX8_edition cX8_edition 4 (some FieldType.int) 6 0 0 138 [og xC, oi z, oi v, oi w] T σ (oPs (fun zx σ2 => zx = (fEdition A Lh z v w).1 ∧ oCk σ σ2 xC (fEdition A Lh z v w).2.1 (fEdition A Lh z v w).2.2 (σ xC 10)) T) := by
  have hXc := hX
  obtain ⟨hX0, hXr0, hXr1, hXr2, hXr3, hXr4, hXr5, hXr6, hXn, hXs, hXy, hXq, hXk, hXb, hXbs, hXi, hXT⟩ := hXc
  have hHc := hXn
  obtain ⟨hH0, hH1, hH2, hH3, hH4, hH6, hG1, hG80, hG81, hG82, hG83, hEs, hLs, hHT⟩ := hHc
  have hRc := hR
  obtain ⟨hR0, hR5, hR7, hRw8, hRp, hRl, hRe⟩ := hRc
  have hIn := oI_n hI
  have hIc := hI
  obtain ⟨hI1, hI2, hI3, hI4, hI5, hI6, hI7, hI8, -⟩ := hIc
  have hY0 := hXy.1
  have hHc2 := hH
  obtain ⟨on, sn, ho, ho9, hsz, hlen, hs8, hrow⟩ := hHc2
  refine o_met (by decide +kernel) (Nat.le_of_ble_eq_true rfl) (fun p l ee s m args below meth c G b C hr hn => ?_)
  have C : oCx p s m args meth c G b RX8 cX8_edition 4 := C
  show oW p l ee ({ frames := 6, cells := 0, slots := 0, locals := 138 } : Room) s m args below meth c G b 4 0 0 (MQ below (o_Qc G b (oPs (fun zx σ2 => zx = (fEdition A Lh z v w).1 ∧ oCk σ σ2 xC (fEdition A Lh z v w).2.1 (fEdition A Lh z v w).2.2 (σ xC 10)) T)) args s 0 0 (fun q => b ≤ q)) T σ 0 [some (og xC), some (oi z), some (oi v), some (oi w)] []
  refine r_il1 (q := 1) C dX8_edition_0 rfl ?_
  refine r_iconst (q := 2) C dX8_edition_1 rfl ?_
  refine r_iconst (q := 3) C dX8_edition_2 rfl ?_
  refine r_callSb (q := 6) C (c_X8_within hz (by omega) (by omega)) m_X8_68 dX8_edition_3 rfl rfl (by decide) (by decide) (Nat.le_of_ble_eq_true rfl) (fun br3 => ?_) (fun br3 => ?_)
  · refine r_ifne_t (q := 11) C (by decide) (by omega) dX8_edition_6 (by decide) ?_
    have hs := fEdition.eq_1 A Lh z v w
    rw [if_pos br3] at hs
    refine r_il2 (q := 12) C dX8_edition_11 rfl ?_
    refine r_iconst (q := 13) C dX8_edition_12 rfl ?_
    refine r_bipush (q := 15) C dX8_edition_13 (by decide) rfl ?_
    refine r_callSb (q := 18) C (c_X8_within hv (by omega) (by omega)) m_X8_68 dX8_edition_15 rfl rfl (by decide) (by decide) (Nat.le_of_ble_eq_true rfl) (fun br15 => ?_) (fun br15 => ?_)
    · refine r_ifeq_f (q := 31) (q2 := 21) C (by decide) (by omega) dX8_edition_18 (by decide) rfl ?_
      refine r_il3 (q := 22) C dX8_edition_21 rfl ?_
      refine r_iconst (q := 23) C dX8_edition_22 rfl ?_
      refine r_bipush (q := 25) C dX8_edition_23 (by decide) rfl ?_
      refine r_callSb (q := 28) C (c_X8_within hw (by omega) (by omega)) m_X8_68 dX8_edition_25 rfl rfl (by decide) (by decide) (Nat.le_of_ble_eq_true rfl) (fun br25 => ?_) (fun br25 => ?_)
      · refine r_ifne_t (q := 34) C (by decide) (by omega) dX8_edition_28 (by decide) ?_
        rw [if_pos ⟨br15, br25⟩] at hs
        obtain ⟨wN, rfl⟩ : ∃ wN : Nat, z = (wN : Int) := ⟨z.toNat, by omega⟩
        obtain ⟨bN, rfl⟩ : ∃ bN : Nat, v = (bN : Int) := ⟨v.toNat, by omega⟩
        simp only [Int.toNat_natCast] at hs
        refine r_al0 (q := 35) C dX8_edition_34 rfl ?_
        refine r_getR (q := 38) C f_X8_10 dX8_edition_35 rfl rfl (by assumption) (by assumption) (by omega) ?_
        refine r_il1 (q := 39) C dX8_edition_38 rfl ?_
        refine r_callVb (q := 42) C (c_X6_hasWork hXn hR0 hIn.2.2.1 hz (fun jx hj => by rw [(oHR_e hR hj).1]; have := (oI_b hI hj).1.1; omega)) m_X8_72 (by assumption) (by omega) dX8_edition_39 rfl rfl (by decide) (by decide) (Nat.le_of_ble_eq_true rfl) (fun br39 => ?_) (fun br39 => ?_)
        · refine r_ifeq_f (q := 48) (q2 := 45) C (by decide) (by omega) dX8_edition_42 (by decide) rfl ?_
          have hex : ∃ ex, ex < nEd A ∧ A (177 + 813 * ex) = (wN : Int) := by
            obtain ⟨jx, j1, j2⟩ := br39
            exact ⟨jx, j1, by rw [← (oHR_e hR j1).1]; exact j2⟩
          rw [if_pos hex] at hs
          refine r_bipush (q := 47) C dX8_edition_45 (by decide) rfl ?_
          exact r_iret C hr dX8_edition_47 (by decide) (by decide) ⟨_, rfl, rfl, by rw [hs], by rw [hs]; exact oCk_rf hR hH⟩
        · refine r_ifeq_t (q := 48) C (by decide) (by omega) dX8_edition_42 (by decide) ?_
          have hnx : ∀ ex, ex < nEd A → A (177 + 813 * ex) ≠ (wN : Int) := fun ex hx hc => br39 ⟨ex, hx, by rw [(oHR_e hR hx).1]; exact hc⟩
          rw [if_neg (fun hc => by obtain ⟨ex, e1, e2⟩ := hc; exact hnx ex e1 e2)] at hs
          refine r_al0 (q := 49) C dX8_edition_48 rfl ?_
          refine r_getR (q := 52) C f_X8_10 dX8_edition_49 rfl rfl (by assumption) (by assumption) (by omega) ?_
          refine r_getI (q := 55) C f_X8_76 dX8_edition_52 rfl rfl (by assumption) (by omega) ?_
          rw [hR0]
          refine r_bipush (q := 57) C dX8_edition_55 (by decide) rfl ?_
          refine r_iclt (q := 63) (q2 := 60) C (by omega) (by omega) dX8_edition_57 (by decide) rfl (fun br57 => ?_) (fun br57 => ?_)
          · rw [if_neg (by omega)] at hs
            refine r_al0 (q := 64) C dX8_edition_63 rfl ?_
            refine r_getR (q := 67) C f_X8_22 dX8_edition_64 rfl rfl (by assumption) (by assumption) (by omega) ?_
            refine r_al0 (q := 68) C dX8_edition_67 rfl ?_
            refine r_getR (q := 71) C f_X8_10 dX8_edition_68 rfl rfl (by assumption) (by assumption) (by omega) ?_
            refine r_callVv (q := 74) C (c_X5_keep hXy ho ho9 hsz hs8 hXn (by omega) hR0 hIn.2.2.1 hR5 hIn.2.2.2 (fun j hj => ⟨nBr A j, (oHR_e hR hj).2.2, (oI_b hI hj).2.2.2⟩)) m_X8_79 (by assumption) (by omega) dX8_edition_71 rfl rfl (by decide) (by decide) (Nat.le_of_ble_eq_true rfl) (fun σ2 hσ2 => ?_)
            obtain ⟨σ1, hk1, hk2⟩ := hσ2
            obtain ⟨hK, hH2, hfr2⟩ := keep_of (by omega) hR ⟨hIn.2.2.1, hIn.2.2.2⟩ ho ho9 hsz hlen hs8 hrow hb hk1 hk2
            have hpb := hpush_b hb (A := A) ⟨hIn.2.2.1, hIn.2.2.2⟩
            refine r_al0 (q := 75) C dX8_edition_74 rfl ?_
            refine r_getR (q := 78) C f_X8_10 dX8_edition_75 rfl rfl (by assumption) (by assumption) (by omega) ?_
            refine r_il1 (q := 79) C dX8_edition_78 rfl ?_
            refine r_il2 (q := 80) C dX8_edition_79 rfl ?_
            refine r_il3 (q := 81) C dX8_edition_80 rfl ?_
            refine r_callVs (q := 84) C (c_X6_addFirst (Nn := nEd A) (wN := wN) (Bn := bN) (btx := w) hXn hK.1 (by omega) (by omega) (by omega) (by omega)) m_X8_83 (by assumption) (by omega) dX8_edition_81 rfl rfl (by decide) (by decide) (Nat.le_of_ble_eq_true rfl) (fun z3 σ3 hσ3 => ?_)
            refine r_iret C hr dX8_edition_84 (by decide) (by decide) ?_
            obtain ⟨rfl, h3⟩ := hσ3
            have hnew := oHR_edn (σ2 := σ3) hK hI (by omega) (by omega) (by omega) (by omega) (hJ wN (by omega) hnx) h3
            have hfr3 : ∀ x, (x < xC + 1 ∨ xC + 105 ≤ x) → σ3 x = σ2 x := fun x hx => by rw [h3, o_up_ne (by omega), o_up_ne (by omega), o_up_ne (by omega), o_clr_ne (by omega), o_fl_ne (by rw [rowK_f]; omega), o_up_ne (by omega), o_up_ne (by omega), o_up_ne (by omega)]
            exact ⟨_, rfl, rfl, by rw [hs]; exact hIn.1, by rw [hs]; exact ⟨hnew, oHis_fr hH2 hpb (fun x h1 h2 => hfr3 x (by omega)), fun x h1 h2 => by rw [hfr3 x (by omega)]; exact hfr2 x (by omega), fun k _ => by rw [hfr3 xC (by omega), hfr2 xC (by omega)], by rw [hfr3 xC (by omega), hfr2 xC (by omega)]⟩⟩
          · refine r_bipush (q := 62) C dX8_edition_60 (by decide) rfl ?_
            exact r_iret C hr dX8_edition_62 (by decide) (by decide) ⟨_, rfl, rfl, by rw [hs, if_pos (by omega)], by rw [hs, if_pos (by omega)]; exact oCk_rf hR hH⟩
      · refine r_ifne_f (q := 34) (q2 := 31) C (by decide) (by omega) dX8_edition_28 (by decide) rfl ?_
        refine r_bipush (q := 33) C dX8_edition_31 (by decide) rfl ?_
        exact r_iret C hr dX8_edition_33 (by decide) (by decide) ⟨_, rfl, rfl, by rw [hs, if_neg (fun hc => br25 hc.2)], by rw [hs, if_neg (fun hc => br25 hc.2)]; exact oCk_rf hR hH⟩
    · refine r_ifeq_t (q := 31) C (by decide) (by omega) dX8_edition_18 (by decide) ?_
      refine r_bipush (q := 33) C dX8_edition_31 (by decide) rfl ?_
      exact r_iret C hr dX8_edition_33 (by decide) (by decide) ⟨_, rfl, rfl, by rw [hs, if_neg (fun hc => br15 hc.1)], by rw [hs, if_neg (fun hc => br15 hc.1)]; exact oCk_rf hR hH⟩
  · refine r_ifne_f (q := 11) (q2 := 9) C (by decide) (by omega) dX8_edition_6 (by decide) rfl ?_
    refine r_iconst (q := 10) C dX8_edition_9 rfl ?_
    exact r_iret C hr dX8_edition_10 (by decide) (by decide) ⟨_, rfl, rfl, by rw [fEdition, if_neg br3], by rw [fEdition, if_neg br3]; exact oCk_rf hR hH⟩
set_option maxRecDepth 20000 in
set_option maxHeartbeats 8000000 in
theorem c_X8_derive {T : oT} {σ : oM} {xC : Nat} {A : Nat → Int} {Bd : Int} (hX : oX T xC) (hR : oHR σ (xC + 1) A) (hI : oI Bd A) {Lh : List (Nat → Int)} (hH : oHis σ (xC + 209) Lh) (hb : ∀ B ∈ Lh, nEd B ≤ 6 ∧ nLn B ≤ 20) {z : Int} (hz : o_r z) : MS yX8_derive cX8_derive 2 (some FieldType.int) 6 0 0 138 [og xC, oi z] T σ (oPs (fun zx σ2 => zx = (fDerive A Lh z).1 ∧ oCk σ σ2 xC (fDerive A Lh z).2.1 (fDerive A Lh z).2.2 (σ xC 10)) T) := by
  have hXc := hX
  obtain ⟨hX0, hXr0, hXr1, hXr2, hXr3, hXr4, hXr5, hXr6, hXn, hXs, hXy, hXq, hXk, hXb, hXbs, hXi, hXT⟩ := hXc
  have hHc := hXn
  obtain ⟨hH0, hH1, hH2, hH3, hH4, hH6, hG1, hG80, hG81, hG82, hG83, hEs, hLs, hHT⟩ := hHc
  have hRc := hR
  obtain ⟨hR0, hR5, hR7, hRw8, hRp, hRl, hRe⟩ := hRc
  have hIn := oI_n hI
  have hIc := hI
  obtain ⟨hI1, hI2, hI3, hI4, hI5, hI6, hI7, hI8, -⟩ := hIc
  have hY0 := hXy.1
  have hHc2 := hH
  obtain ⟨on, sn, ho, ho9, hsz, hlen, hs8, hrow⟩ := hHc2
  refine o_met (by decide +kernel) (Nat.le_of_ble_eq_true rfl) (fun p l ee s m args below meth c G b C hr hn => ?_)
  have C : oCx p s m args meth c G b RX8 cX8_derive 2 := C
  show oW p l ee ({ frames := 6, cells := 0, slots := 0, locals := 138 } : Room) s m args below meth c G b 2 0 0 (MQ below (o_Qc G b (oPs (fun zx σ2 => zx = (fDerive A Lh z).1 ∧ oCk σ σ2 xC (fDerive A Lh z).2.1 (fDerive A Lh z).2.2 (σ xC 10)) T)) args s 0 0 (fun q => b ≤ q)) T σ 0 [some (og xC), some (oi z)] []
  refine r_al0 (q := 1) C dX8_derive_0 rfl ?_
  refine r_il1 (q := 2) C dX8_derive_1 rfl ?_
  refine r_callVb (q := 5) C (c_X8_isEdition hX hR hI (by omega)) m_X8_87 (by assumption) (by omega) dX8_derive_2 rfl rfl (by decide) (by decide) (Nat.le_of_ble_eq_true rfl) (fun br2 => ?_) (fun br2 => ?_)
  · refine r_ifne_t (q := 10) C (by decide) (by omega) dX8_derive_5 (by decide) ?_
    have hs := fDerive.eq_1 A Lh z
    rw [if_pos br2] at hs
    obtain ⟨eN, rfl, heN, heN6⟩ := isEd_n hI br2
    have hEj0 := (hEs eN (by omega)).1
    have hEd := (hEs eN (by omega)).2
    have hEj1 := hEd.1
    have hRE := oHR_e hR (ex := eN) (by omega)
    have hIE := oI_b hI (ex := eN) (by omega)
    obtain ⟨hRE0, hRE1, hRE2⟩ := hRE
    have hREc : ∀ ix, ix < 6 → _ := fun ix hi => oHR_c hR (ex := eN) (ix := ix) (by omega) hi
    have hREb : ∀ jx, 1 ≤ jx → jx ≤ nBr A eN → _ := fun jx j1 j2 => oHR_b hR (ex := eN) (jx := jx) (by omega) j1 j2
    simp only [Int.toNat_natCast] at hs
    refine r_al0 (q := 11) C dX8_derive_10 rfl ?_
    refine r_getR (q := 14) C f_X8_10 dX8_derive_11 rfl rfl (by assumption) (by assumption) (by omega) ?_
    refine r_getI (q := 17) C f_X8_76 dX8_derive_14 rfl rfl (by assumption) (by omega) ?_
    rw [hR0]
    refine r_bipush (q := 19) C dX8_derive_17 (by decide) rfl ?_
    refine r_iclt (q := 25) (q2 := 22) C (by omega) (by omega) dX8_derive_19 (by decide) rfl (fun br19 => ?_) (fun br19 => ?_)
    · rw [if_neg (by omega)] at hs
      refine r_al0 (q := 26) C dX8_derive_25 rfl ?_
      refine r_getR (q := 29) C f_X8_22 dX8_derive_26 rfl rfl (by assumption) (by assumption) (by omega) ?_
      refine r_al0 (q := 30) C dX8_derive_29 rfl ?_
      refine r_getR (q := 33) C f_X8_10 dX8_derive_30 rfl rfl (by assumption) (by assumption) (by omega) ?_
      refine r_callVv (q := 36) C (c_X5_keep hXy ho ho9 hsz hs8 hXn (by omega) hR0 hIn.2.2.1 hR5 hIn.2.2.2 (fun j hj => ⟨nBr A j, (oHR_e hR hj).2.2, (oI_b hI hj).2.2.2⟩)) m_X8_79 (by assumption) (by omega) dX8_derive_33 rfl rfl (by decide) (by decide) (Nat.le_of_ble_eq_true rfl) (fun σ2 hσ2 => ?_)
      obtain ⟨σ1, hk1, hk2⟩ := hσ2
      obtain ⟨hK, hH2, hfr2⟩ := keep_of (by omega) hR ⟨hIn.2.2.1, hIn.2.2.2⟩ ho ho9 hsz hlen hs8 hrow hb hk1 hk2
      have hpb := hpush_b hb (A := A) ⟨hIn.2.2.1, hIn.2.2.2⟩
      refine r_al0 (q := 37) C dX8_derive_36 rfl ?_
      refine r_getR (q := 40) C f_X8_10 dX8_derive_37 rfl rfl (by assumption) (by assumption) (by omega) ?_
      refine r_il1 (q := 41) C dX8_derive_40 rfl ?_
      refine r_callVs (q := 44) C (c_X6_addCopy (Nn := nEd A) (kN := eN) (Bn := nBr A eN) hXn hK.1 (by omega) (by omega) (oHR_e hK heN).2.2 (by omega)) m_X8_90 (by assumption) (by omega) dX8_derive_41 rfl rfl (by decide) (by decide) (Nat.le_of_ble_eq_true rfl) (fun z3 σ3 hσ3 => ?_)
      refine r_iret C hr dX8_derive_44 (by decide) (by decide) ?_
      obtain ⟨rfl, h3⟩ := hσ3
      have hnew := oHR_drv (σ2 := σ3) hK hI (by omega) heN h3
      have hfr3 : ∀ x, (x < xC + 1 ∨ xC + 105 ≤ x) → σ3 x = σ2 x := fun x hx => by rw [h3, o_up_ne (by omega), o_clr_ne (by omega), o_up_ne (by omega), o_like_ne (by omega)]
      exact ⟨_, rfl, rfl, by rw [hs]; exact hIn.1, by rw [hs]; exact ⟨hnew, oHis_fr hH2 hpb (fun x h1 h2 => hfr3 x (by omega)), fun x h1 h2 => by rw [hfr3 x (by omega)]; exact hfr2 x (by omega), fun k _ => by rw [hfr3 xC (by omega), hfr2 xC (by omega)], by rw [hfr3 xC (by omega), hfr2 xC (by omega)]⟩⟩
    · refine r_bipush (q := 24) C dX8_derive_22 (by decide) rfl ?_
      exact r_iret C hr dX8_derive_24 (by decide) (by decide) ⟨_, rfl, rfl, by rw [hs, if_pos (by omega)], by rw [hs, if_pos (by omega)]; exact oCk_rf hR hH⟩
  · refine r_ifne_f (q := 10) (q2 := 8) C (by decide) (by omega) dX8_derive_5 (by decide) rfl ?_
    refine r_iconst (q := 9) C dX8_derive_8 rfl ?_
    exact r_iret C hr dX8_derive_9 (by decide) (by decide) ⟨_, rfl, rfl, by rw [fDerive, if_neg br2], by rw [fDerive, if_neg br2]; exact oCk_rf hR hH⟩
theorem cntP_congr {P Q : Nat → Int} : ∀ {n : Nat}, (∀ j, j < n → P j = Q j) → cntP P n = cntP Q n
  | 0, _ => rfl
  | n + 1, h => by
    show cntP P n + (if 0 < P n then 1 else 0) = cntP Q n + (if 0 < Q n then 1 else 0)
    rw [cntP_congr (n := n) (fun j hj => h j (by omega)), h n (by omega)]
set_option maxRecDepth 20000 in
set_option maxHeartbeats 8000000 in
theorem c_X8_lendAll {T : oT} {σ : oM} {xC : Nat} {A : Nat → Int} {Bd : Int} (hX : oX T xC) (hR : oHR σ (xC + 1) A) (hI : oI Bd A) (hBd : Bd ≤ 99990000) {Lh : List (Nat → Int)} (hH : oHis σ (xC + 209) Lh) (hb : ∀ B ∈ Lh, nEd B ≤ 6 ∧ nLn B ≤ 20) {z v w : Int} (hz : o_r z) (hv : o_r v) (hw : o_r w) : MS yX8_lendAll cX8_lendAll 5 (some FieldType.int) 6 0 0 138 [og xC, oi z, oi v, oi w] T σ (oPs (fun zx σ2 => zx = (fLendAll A Lh (σ xC 10) z v w).1 ∧ oCk σ σ2 xC (fLendAll A Lh (σ xC 10) z v w).2.1 (fLendAll A Lh (σ xC 10) z v w).2.2.1 (fLendAll A Lh (σ xC 10) z v w).2.2.2) T) := by
  have hXc := hX
  obtain ⟨hX0, hXr0, hXr1, hXr2, hXr3, hXr4, hXr5, hXr6, hXn, hXs, hXy, hXq, hXk, hXb, hXbs, hXi, hXT⟩ := hXc
  have hHc := hXn
  obtain ⟨hH0, hH1, hH2, hH3, hH4, hH6, hG1, hG80, hG81, hG82, hG83, hEs, hLs, hHT⟩ := hHc
  have hRc := hR
  obtain ⟨hR0, hR5, hR7, hRw8, hRp, hRl, hRe⟩ := hRc
  have hIn := oI_n hI
  have hIc := hI
  obtain ⟨hI1, hI2, hI3, hI4, hI5, hI6, hI7, hI8, -⟩ := hIc
  have hY0 := hXy.1
  have hHc2 := hH
  obtain ⟨on, sn, ho, ho9, hsz, hlen, hs8, hrow⟩ := hHc2
  refine o_met (by decide +kernel) (Nat.le_of_ble_eq_true rfl) (fun p l ee s m args below meth c G b C hr hn => ?_)
  have C : oCx p s m args meth c G b RX8 cX8_lendAll 5 := C
  show oW p l ee ({ frames := 6, cells := 0, slots := 0, locals := 138 } : Room) s m args below meth c G b 5 0 0 (MQ below (o_Qc G b (oPs (fun zx σ2 => zx = (fLendAll A Lh (σ xC 10) z v w).1 ∧ oCk σ σ2 xC (fLendAll A Lh (σ xC 10) z v w).2.1 (fLendAll A Lh (σ xC 10) z v w).2.2.1 (fLendAll A Lh (σ xC 10) z v w).2.2.2) T)) args s 0 0 (fun q => b ≤ q)) T σ 0 [some (og xC), some (oi z), some (oi v), some (oi w), none] []
  refine r_il1 (q := 1) C dX8_lendAll_0 rfl ?_
  refine r_callSb (q := 4) C (c_X8_isBorrower (by omega)) m_X8_286 dX8_lendAll_1 rfl rfl (by decide) (by decide) (Nat.le_of_ble_eq_true rfl) (fun br1 => ?_) (fun br1 => ?_)
  · refine r_ifeq_f (q := 15) (q2 := 7) C (by decide) (by omega) dX8_lendAll_4 (by decide) rfl ?_
    refine r_al0 (q := 8) C dX8_lendAll_7 rfl ?_
    refine r_il2 (q := 9) C dX8_lendAll_8 rfl ?_
    refine r_callVb (q := 12) C (c_X8_isEdition hX hR hI (by omega)) m_X8_87 (by assumption) (by omega) dX8_lendAll_9 rfl rfl (by decide) (by decide) (Nat.le_of_ble_eq_true rfl) (fun br9 => ?_) (fun br9 => ?_)
    · refine r_ifne_t (q := 17) C (by decide) (by omega) dX8_lendAll_12 (by decide) ?_
      have hs := fLendAll.eq_1 A Lh (σ xC 10) z v w
      rw [if_pos ⟨br1, br9⟩] at hs
      obtain ⟨eN, rfl, heN, heN6⟩ := isEd_n hI br9
      have hEj0 := (hEs eN (by omega)).1
      have hEd := (hEs eN (by omega)).2
      have hEj1 := hEd.1
      have hRE := oHR_e hR (ex := eN) (by omega)
      have hIE := oI_b hI (ex := eN) (by omega)
      obtain ⟨hRE0, hRE1, hRE2⟩ := hRE
      have hREc : ∀ ix, ix < 6 → _ := fun ix hi => oHR_c hR (ex := eN) (ix := ix) (by omega) hi
      have hREb : ∀ jx, 1 ≤ jx → jx ≤ nBr A eN → _ := fun jx j1 j2 => oHR_b hR (ex := eN) (jx := jx) (by omega) j1 j2
      simp only [Int.toNat_natCast] at hs
      refine r_il3 (q := 18) C dX8_lendAll_17 rfl ?_
      refine r_iconst (q := 19) C dX8_lendAll_18 rfl ?_
      refine r_sipush (q := 22) C dX8_lendAll_19 (by decide) rfl ?_
      refine r_callSb (q := 25) C (c_X8_within hw (by omega) (by omega)) m_X8_68 dX8_lendAll_22 rfl rfl (by decide) (by decide) (Nat.le_of_ble_eq_true rfl) (fun br22 => ?_) (fun br22 => ?_)
      · refine r_ifne_t (q := 31) C (by decide) (by omega) dX8_lendAll_25 (by decide) ?_
        rw [if_pos br22] at hs
        have hpl : ∀ j, j < 6 → σ (xC + 1 + 82) j = A (11 + j) := hRp
        have hsm : sumF (fun jx => if 0 < σ (xC + 1 + 82) jx then 1 else 0) 6 = ((nPl A : Nat) : Int) := by
          unfold nPl
          rw [← sumF_cnt 6]
          exact sumF_congr (fun i hi => by rw [hpl i hi])
        have hcl : nPl A ≤ 6 := cntP_le
        refine r_al0 (q := 32) C dX8_lendAll_31 rfl ?_
        refine r_getR (q := 35) C f_X8_10 dX8_lendAll_32 rfl rfl (by assumption) (by assumption) (by omega) ?_
        refine r_callV1 (q := 38) C (c_X6_instrumentsWithPlayers hXn (fun jx hj => by rw [hpl jx hj]; have := hI6 jx hj; omega)) m_X8_298 (by assumption) (by omega) dX8_lendAll_35 rfl rfl (by decide) (by decide) (Nat.le_of_ble_eq_true rfl) ?_
        rw [hsm]
        refine r_is4 (q := 40) C dX8_lendAll_38 rfl (by decide) ?_
        refine r_il4 (q := 42) C dX8_lendAll_40 rfl ?_
        refine r_ifne (q := 52) (q2 := 45) C (by omega) dX8_lendAll_42 (by decide) rfl (fun br42 => ?_) (fun br42 => ?_)
        · rw [if_neg (by omega)] at hs
          have hdk : ∀ jx, jx < 6 → deskF (σ (xC + 1 + 82)) jx = deskF (fun j => A (11 + j)) jx := fun jx hj => deskF_congr (hpl jx hj)
          refine r_al0 (q := 53) C dX8_lendAll_52 rfl ?_
          refine r_getR (q := 56) C f_X8_10 dX8_lendAll_53 rfl rfl (by assumption) (by assumption) (by omega) ?_
          refine r_il2 (q := 57) C dX8_lendAll_56 rfl ?_
          refine r_callVb (q := 60) C (c_X6_hasAllNeeded (eN := eN) hXn heN6 (fun jx hj => by rw [hpl jx hj]; have := hI6 jx hj; omega) (fun jx hj => by rw [(hREc jx hj).1]; have := hIE.1.2.2.2.1 jx hj; omega)) m_X8_301 (by assumption) (by omega) dX8_lendAll_57 rfl rfl (by decide) (by decide) (Nat.le_of_ble_eq_true rfl) (fun br57 => ?_) (fun br57 => ?_)
          · refine r_ifne_t (q := 69) C (by decide) (by omega) dX8_lendAll_60 (by decide) ?_
            rw [if_pos (fun jx hj => by have hq := br57 jx hj; rw [hdk jx hj, (hREc jx hj).1] at hq; exact hq)] at hs
            have hrg : ∀ jx, jx < nLn A → o_r (σ (xC + 1 + 84 + jx) 0) ∧ o_r (σ (xC + 1 + 84 + jx) 4) ∧ o_r (σ (xC + 1 + 84 + jx) 6) := fun jx hj => by
              have h1 := hRl jx hj
              have h2 := hI7 jx hj
              obtain ⟨g0, g1, g2, g3, g4, g5, g6, g7⟩ := h1
              rw [g0, g4, g6]
              omega
            have hdy : o_r (σ (xC + 1) 7) := by omega
            have hsf : sumF (fun jx => if σ (xC + 1 + 84 + jx) 0 = z then (if (3 : Int) = 0 then σ (xC + 1 + 84 + jx) 4 else if (3 : Int) = 1 then σ (xC + 1 + 84 + jx) 5 else if (3 : Int) = 2 then σ (xC + 1 + 84 + jx) 7 else if 0 < σ (xC + 1 + 84 + jx) 4 ∧ σ (xC + 1 + 84 + jx) 6 < σ (xC + 1) 7 then 1 else 0) else 0) (nLn A) = owesF A z 3 := sumF_congr (fun j hj => by
              obtain ⟨g0, g1, g2, g3, g4, g5, g6, g7⟩ := hRl j hj
              try simp only
              rw [g0, g4, g5, g6, g7, hR7])
            have how := owes3 (z := z) hIn.2.2.2
            refine r_al0 (q := 70) C dX8_lendAll_69 rfl ?_
            refine r_getR (q := 73) C f_X8_10 dX8_lendAll_70 rfl rfl (by assumption) (by assumption) (by omega) ?_
            refine r_il1 (q := 74) C dX8_lendAll_73 rfl ?_
            refine r_iconst (q := 75) C dX8_lendAll_74 rfl ?_
            refine r_callV1 (q := 78) C (c_X6_sumOfLoans (wx := 3) hXn hR5 hIn.2.2.2 hz (by omega) hrg hdy) m_X8_289 (by assumption) (by omega) dX8_lendAll_75 rfl rfl (by decide) (by decide) (Nat.le_of_ble_eq_true rfl) ?_
            rw [hsf]
            refine r_ifle (q := 87) (q2 := 81) C (by omega) dX8_lendAll_78 (by decide) rfl (fun br78 => ?_) (fun br78 => ?_)
            · rw [if_neg (by omega)] at hs
              refine r_al0 (q := 88) C dX8_lendAll_87 rfl ?_
              refine r_getR (q := 91) C f_X8_10 dX8_lendAll_88 rfl rfl (by assumption) (by assumption) (by omega) ?_
              refine r_getI (q := 94) C f_X8_292 dX8_lendAll_91 rfl rfl (by assumption) (by omega) ?_
              rw [hR5]
              refine r_il4 (q := 96) C dX8_lendAll_94 rfl ?_
              refine r_iadd (q := 97) C dX8_lendAll_96 rfl ?_
              refine r_bipush (q := 99) C dX8_lendAll_97 (by decide) rfl ?_
              refine r_icle (q := 108) (q2 := 102) C (by omega) (by omega) dX8_lendAll_99 (by decide) rfl (fun br99 => ?_) (fun br99 => ?_)
              · rw [if_neg (by omega)] at hs
                refine r_al0 (q := 109) C dX8_lendAll_108 rfl ?_
                refine r_getR (q := 112) C f_X8_22 dX8_lendAll_109 rfl rfl (by assumption) (by assumption) (by omega) ?_
                refine r_al0 (q := 113) C dX8_lendAll_112 rfl ?_
                refine r_getR (q := 116) C f_X8_10 dX8_lendAll_113 rfl rfl (by assumption) (by assumption) (by omega) ?_
                refine r_callVv (q := 119) C (c_X5_keep hXy ho ho9 hsz hs8 hXn (by omega) hR0 hIn.2.2.1 hR5 hIn.2.2.2 (fun j hj => ⟨nBr A j, (oHR_e hR hj).2.2, (oI_b hI hj).2.2.2⟩)) m_X8_79 (by assumption) (by omega) dX8_lendAll_116 rfl rfl (by decide) (by decide) (Nat.le_of_ble_eq_true rfl) (fun σ2 hσ2 => ?_)
                obtain ⟨σ1, hk1, hk2⟩ := hσ2
                obtain ⟨hK, hH2, hfr2⟩ := keep_of (by omega) hR ⟨hIn.2.2.1, hIn.2.2.2⟩ ho ho9 hsz hlen hs8 hrow hb hk1 hk2
                have hpb := hpush_b hb (A := A) ⟨hIn.2.2.1, hIn.2.2.2⟩
                refine r_al0 (q := 120) C dX8_lendAll_119 rfl ?_
                refine r_getR (q := 123) C f_X8_10 dX8_lendAll_120 rfl rfl (by assumption) (by assumption) (by omega) ?_
                refine r_il1 (q := 124) C dX8_lendAll_123 rfl ?_
                refine r_il2 (q := 125) C dX8_lendAll_124 rfl ?_
                refine r_il3 (q := 126) C dX8_lendAll_125 rfl ?_
                refine r_callVv (q := 129) C (c_X6_addLoansOfAllNeeded (eN := eN) (Mn := nLn A) hXn hK.2.1 (by have e1 : σ2 (xC + 1 + 82) = σ2 (xC + 1 + 82) := rfl; have e2 : cntP (σ2 (xC + 1 + 82)) 6 = nPl A := cntP_congr (fun j hj => hK.2.2.2.2.1 j hj); omega) heN6 (fun jx hj => by rw [hK.2.2.2.2.1 jx hj]; have := hI6 jx hj; omega)) m_X8_304 (by assumption) (by omega) dX8_lendAll_126 rfl rfl (by decide) (by decide) (Nat.le_of_ble_eq_true rfl) (fun σ3 hσ3 => ?_)
                refine r_il4 (q := 131) C dX8_lendAll_129 rfl ?_
                refine r_iret C hr dX8_lendAll_131 (by decide) (by decide) ?_
                obtain ⟨hn1, -, hn3⟩ := oHR_lendN (eN := eN) (bo := z) (dx := w) hK hI hBd heN br1 br22 (by omega) 6 (Nat.le_refl _)
                rw [← hσ3] at hn1 hn3
                exact ⟨_, rfl, rfl, by rw [hs], by rw [hs]; exact ⟨hn1, oHis_fr hH2 hpb (fun x h1 h2 => hn3 x (by omega)), fun x h1 h2 => by rw [hn3 x (by omega)]; exact hfr2 x (by omega), fun k _ => by rw [hn3 xC (by omega), hfr2 xC (by omega)], by rw [hn3 xC (by omega), hfr2 xC (by omega)]⟩⟩
              · rw [if_pos (by omega)] at hs
                refine r_al0 (q := 103) C dX8_lendAll_102 rfl ?_
                refine r_iconst (q := 104) C dX8_lendAll_103 rfl ?_
                refine r_callVs (q := 107) C (c_X8_refuse hX) m_X8_120 (by assumption) (by omega) dX8_lendAll_104 rfl rfl (by decide) (by decide) (Nat.le_of_ble_eq_true rfl) (fun z2 σ2 hσ2 => ?_)
                refine r_iret C hr dX8_lendAll_107 (by decide) (by decide) ?_
                obtain ⟨rfl, rfl⟩ := hσ2
                exact ⟨_, rfl, rfl, by rw [hs], by rw [hs]; exact ⟨oHR_fr hR ⟨hIn.2.2.1, hIn.2.2.2⟩ (fun x h1 _ => o_up_ne (by omega)), oHis_fr hH hb (fun x h1 h2 => o_up_ne (by omega)), fun x h3 _ => o_up_ne h3, fun k hk => o_up_nj (Or.inr hk), o_up_at⟩⟩
            · rw [if_pos br78] at hs
              refine r_al0 (q := 82) C dX8_lendAll_81 rfl ?_
              refine r_iconst (q := 83) C dX8_lendAll_82 rfl ?_
              refine r_callVs (q := 86) C (c_X8_refuse hX) m_X8_120 (by assumption) (by omega) dX8_lendAll_83 rfl rfl (by decide) (by decide) (Nat.le_of_ble_eq_true rfl) (fun z2 σ2 hσ2 => ?_)
              refine r_iret C hr dX8_lendAll_86 (by decide) (by decide) ?_
              obtain ⟨rfl, rfl⟩ := hσ2
              exact ⟨_, rfl, rfl, by rw [hs], by rw [hs]; exact ⟨oHR_fr hR ⟨hIn.2.2.1, hIn.2.2.2⟩ (fun x h1 _ => o_up_ne (by omega)), oHis_fr hH hb (fun x h1 h2 => o_up_ne (by omega)), fun x h3 _ => o_up_ne h3, fun k hk => o_up_nj (Or.inr hk), o_up_at⟩⟩
          · refine r_ifne_f (q := 69) (q2 := 63) C (by decide) (by omega) dX8_lendAll_60 (by decide) rfl ?_
            rw [if_neg (fun hc => br57 (fun jx hj => by rw [hdk jx hj, (hREc jx hj).1]; exact hc jx hj))] at hs
            refine r_al0 (q := 64) C dX8_lendAll_63 rfl ?_
            refine r_iconst (q := 65) C dX8_lendAll_64 rfl ?_
            refine r_callVs (q := 68) C (c_X8_refuse hX) m_X8_120 (by assumption) (by omega) dX8_lendAll_65 rfl rfl (by decide) (by decide) (Nat.le_of_ble_eq_true rfl) (fun z2 σ2 hσ2 => ?_)
            refine r_iret C hr dX8_lendAll_68 (by decide) (by decide) ?_
            obtain ⟨rfl, rfl⟩ := hσ2
            exact ⟨_, rfl, rfl, by rw [hs], by rw [hs]; exact ⟨oHR_fr hR ⟨hIn.2.2.1, hIn.2.2.2⟩ (fun x h1 _ => o_up_ne (by omega)), oHis_fr hH hb (fun x h1 h2 => o_up_ne (by omega)), fun x h3 _ => o_up_ne h3, fun k hk => o_up_nj (Or.inr hk), o_up_at⟩⟩
        · rw [if_pos (by omega)] at hs
          refine r_al0 (q := 46) C dX8_lendAll_45 rfl ?_
          refine r_bipush (q := 48) C dX8_lendAll_46 (by decide) rfl ?_
          refine r_callVs (q := 51) C (c_X8_refuse hX) m_X8_120 (by assumption) (by omega) dX8_lendAll_48 rfl rfl (by decide) (by decide) (Nat.le_of_ble_eq_true rfl) (fun z2 σ2 hσ2 => ?_)
          refine r_iret C hr dX8_lendAll_51 (by decide) (by decide) ?_
          obtain ⟨rfl, rfl⟩ := hσ2
          exact ⟨_, rfl, rfl, by rw [hs], by rw [hs]; exact ⟨oHR_fr hR ⟨hIn.2.2.1, hIn.2.2.2⟩ (fun x h1 _ => o_up_ne (by omega)), oHis_fr hH hb (fun x h1 h2 => o_up_ne (by omega)), fun x h3 _ => o_up_ne h3, fun k hk => o_up_nj (Or.inr hk), o_up_at⟩⟩
      · refine r_ifne_f (q := 31) (q2 := 28) C (by decide) (by omega) dX8_lendAll_25 (by decide) rfl ?_
        refine r_bipush (q := 30) C dX8_lendAll_28 (by decide) rfl ?_
        exact r_iret C hr dX8_lendAll_30 (by decide) (by decide) ⟨_, rfl, rfl, by rw [hs, if_neg br22], by rw [hs, if_neg br22]; exact oCk_rf hR hH⟩
    · refine r_ifne_f (q := 17) (q2 := 15) C (by decide) (by omega) dX8_lendAll_12 (by decide) rfl ?_
      refine r_iconst (q := 16) C dX8_lendAll_15 rfl ?_
      exact r_iret C hr dX8_lendAll_16 (by decide) (by decide) ⟨_, rfl, rfl, by rw [fLendAll, if_neg (fun hc => br9 hc.2)], by rw [fLendAll, if_neg (fun hc => br9 hc.2)]; exact oCk_rf hR hH⟩
  · refine r_ifeq_t (q := 15) C (by decide) (by omega) dX8_lendAll_4 (by decide) ?_
    refine r_iconst (q := 16) C dX8_lendAll_15 rfl ?_
    exact r_iret C hr dX8_lendAll_16 (by decide) (by decide) ⟨_, rfl, rfl, by rw [fLendAll, if_neg (fun hc => br1 hc.1)], by rw [fLendAll, if_neg (fun hc => br1 hc.1)]; exact oCk_rf hR hH⟩
