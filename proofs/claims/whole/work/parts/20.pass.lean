def fPass (A : Nat → Int) (Lh : List (Nat → Int)) (z : Int) : Int × (Nat → Int) × List (Nat → Int) :=
  if 1 ≤ z ∧ z ≤ 999 then (if 9999 < A 2 + z then (-4, A, Lh) else (A 2 + z, updF A 2 (A 2 + z), hpush Lh A)) else (-2, A, Lh)
set_option maxRecDepth 20000 in
set_option maxHeartbeats 8000000 in
theorem c_X8_pass {T : oT} {σ : oM} {xC : Nat} {A : Nat → Int} {Bd : Int} (hX : oX T xC) (hR : oHR σ (xC + 1) A) (hI : oI Bd A) {Lh : List (Nat → Int)} (hH : oHis σ (xC + 209) Lh) (hb : ∀ B ∈ Lh, nEd B ≤ 6 ∧ nLn B ≤ 20) {z : Int} (hz : o_r z) : MS yX8_pass cX8_pass 2 (some FieldType.int) 6 0 0 138 [og xC, oi z] T σ (oPs (fun zx σ2 => zx = (fPass A Lh z).1 ∧ oCk σ σ2 xC (fPass A Lh z).2.1 (fPass A Lh z).2.2 (σ xC 10)) T) := by
  have hXc := hX
  obtain ⟨hX0, hXr0, hXr1, hXr2, hXr3, hXr4, hXr5, hXr6, hXn, hXs, hXy, hXq, hXk, hXb, hXbs, hXi, hXT⟩ := hXc
  have hHc := hXn
  obtain ⟨hH0, hH1, hH2, hH3, hH4, hH6, hG1, hG80, hG81, hG82, hG83, hEs, hLs, hHT⟩ := hHc
  have hRc := hR
  obtain ⟨hR0, hR5, hR7, hRw8, hRp, hRl, hRe⟩ := hRc
  have hIn := oI_n hI
  have hIc := hI
  obtain ⟨hI1, hI2, hI3, hI4, hI5, hI6, hI7, hI8, -⟩ := hIc
  have hY0 := hXy.1
  have hHc2 := hH
  obtain ⟨on, sn, ho, ho9, hsz, hlen, hs8, hrow⟩ := hHc2
  refine o_met (by decide +kernel) (Nat.le_of_ble_eq_true rfl) (fun p l ee s m args below meth c G b C hr hn => ?_)
  have C : oCx p s m args meth c G b RX8 cX8_pass 2 := C
  show oW p l ee ({ frames := 6, cells := 0, slots := 0, locals := 138 } : Room) s m args below meth c G b 2 0 0 (MQ below (o_Qc G b (oPs (fun zx σ2 => zx = (fPass A Lh z).1 ∧ oCk σ σ2 xC (fPass A Lh z).2.1 (fPass A Lh z).2.2 (σ xC 10)) T)) args s 0 0 (fun q => b ≤ q)) T σ 0 [some (og xC), some (oi z)] []
  refine r_il1 (q := 1) C dX8_pass_0 rfl ?_
  refine r_iconst (q := 2) C dX8_pass_1 rfl ?_
  refine r_sipush (q := 5) C dX8_pass_2 (by decide) rfl ?_
  refine r_callSb (q := 8) C (c_X8_within hz (by omega) (by omega)) m_X8_68 dX8_pass_5 rfl rfl (by decide) (by decide) (Nat.le_of_ble_eq_true rfl) (fun br5 => ?_) (fun br5 => ?_)
  · refine r_ifne_t (q := 14) C (by decide) (by omega) dX8_pass_8 (by decide) ?_
    refine r_al0 (q := 15) C dX8_pass_14 rfl ?_
    refine r_getR (q := 18) C f_X8_10 dX8_pass_15 rfl rfl (by assumption) (by assumption) (by omega) ?_
    refine r_getI (q := 21) C f_X8_344 dX8_pass_18 rfl rfl (by assumption) (by omega) ?_
    refine r_il1 (q := 22) C dX8_pass_21 rfl ?_
    rw [hR7]
    refine r_iadd (q := 23) C dX8_pass_22 rfl ?_
    refine r_sipush (q := 26) C dX8_pass_23 (by decide) rfl ?_
    refine r_icle (q := 32) (q2 := 29) C (by omega) (by omega) dX8_pass_26 (by decide) rfl (fun br26 => ?_) (fun br26 => ?_)
    · have hs := fPass.eq_1 A Lh z
      rw [if_pos br5, if_neg (by omega)] at hs
      refine r_al0 (q := 33) C dX8_pass_32 rfl ?_
      refine r_getR (q := 36) C f_X8_22 dX8_pass_33 rfl rfl (by assumption) (by assumption) (by omega) ?_
      refine r_al0 (q := 37) C dX8_pass_36 rfl ?_
      refine r_getR (q := 40) C f_X8_10 dX8_pass_37 rfl rfl (by assumption) (by assumption) (by omega) ?_
      refine r_callVv (q := 43) C (c_X5_keep hXy ho ho9 hsz hs8 hXn (by omega) hR0 hIn.2.2.1 hR5 hIn.2.2.2 (fun j hj => ⟨nBr A j, (oHR_e hR hj).2.2, (oI_b hI hj).2.2.2⟩)) m_X8_79 (by assumption) (by omega) dX8_pass_40 rfl rfl (by decide) (by decide) (Nat.le_of_ble_eq_true rfl) (fun σ2 hσ2 => ?_)
      obtain ⟨σ1, hk1, hk2⟩ := hσ2
      obtain ⟨hK, hH2, hfr2⟩ := keep_of (by omega) hR ⟨hIn.2.2.1, hIn.2.2.2⟩ ho ho9 hsz hlen hs8 hrow hb hk1 hk2
      have hpb := hpush_b hb (A := A) ⟨hIn.2.2.1, hIn.2.2.2⟩
      refine r_al0 (q := 44) C dX8_pass_43 rfl ?_
      refine r_getR (q := 47) C f_X8_10 dX8_pass_44 rfl rfl (by assumption) (by assumption) (by omega) ?_
      refine r_dup (q := 48) C dX8_pass_47 rfl ?_
      refine r_getI (q := 51) C f_X8_344 dX8_pass_48 rfl rfl (by assumption) (by omega) ?_
      refine r_il1 (q := 52) C dX8_pass_51 rfl ?_
      rw [hK.2.2.1]
      refine r_iadd (q := 53) C dX8_pass_52 rfl ?_
      refine r_putI (q := 56) C fp_X8_344 dX8_pass_53 rfl rfl (by assumption) (by omega) ?_
      refine r_al0 (q := 57) C dX8_pass_56 rfl ?_
      refine r_getR (q := 60) C f_X8_10 dX8_pass_57 rfl rfl (by assumption) (by assumption) (by omega) ?_
      refine r_getI (q := 63) C f_X8_344 dX8_pass_60 rfl rfl (by assumption) (by omega) ?_
      exact r_iret C hr dX8_pass_63 (by decide) (by decide) ⟨_, rfl, rfl, by rw [hs, o_up_at], by rw [hs]; exact ⟨oHR_upD hK hIn.2.2.1 hIn.2.2.2 (fun ex he => (oI_b hI he).2.2.2), oHis_fr hH2 hpb (fun x h1 h2 => o_up_ne (by omega)), fun x h1 h2 => by rw [o_up_ne (by omega)]; exact hfr2 x (by omega), fun k _ => by rw [o_up_ne (by omega), hfr2 xC (by omega)], by rw [o_up_ne (by omega), hfr2 xC (by omega)]⟩⟩
    · refine r_bipush (q := 31) C dX8_pass_29 (by decide) rfl ?_
      exact r_iret C hr dX8_pass_31 (by decide) (by decide) ⟨_, rfl, rfl, by rw [fPass, if_pos br5, if_pos (by omega)], by rw [fPass, if_pos br5, if_pos (by omega)]; exact oCk_rf hR hH⟩
  · refine r_ifne_f (q := 14) (q2 := 11) C (by decide) (by omega) dX8_pass_8 (by decide) rfl ?_
    refine r_bipush (q := 13) C dX8_pass_11 (by decide) rfl ?_
    exact r_iret C hr dX8_pass_13 (by decide) (by decide) ⟨_, rfl, rfl, by rw [fPass, if_neg br5], by rw [fPass, if_neg br5]; exact oCk_rf hR hH⟩
