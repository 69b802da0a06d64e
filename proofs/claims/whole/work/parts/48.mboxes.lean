/-! the reference: boxes, undo, snapshot, input -/
def bxM (σ : oM) (mC : Nat) : oBoxes := (σ (mC + 10), σ (mC + 11), σ (mC + 12), σ (mC + 13))
/-- the boxes' ranges -/
def oBk (bx : oBoxes) : Prop := ∀ ix, ix < 3 → (0 ≤ bx.1 ix ∧ bx.1 ix ≤ 3) ∧ (0 ≤ bx.2.1 ix ∧ bx.2.1 ix ≤ 8) ∧ ∀ px, px < 8 → (0 ≤ bx.2.2.1 (8 * ix + px) ∧ bx.2.2.1 (8 * ix + px) ≤ 6) ∧ (-1 ≤ bx.2.2.2 (8 * ix + px) ∧ bx.2.2.2 (8 * ix + px) ≤ 5)
set_option maxRecDepth 20000 in
set_option maxHeartbeats 8000000 in
theorem c_X9_isPlace {T : oT} {σ : oM} {mC : Nat} (hM : oMm T mC) (hK : oBk (bxM σ mC)) {z v : Int} (hz : o_r z) (hv : o_r v) : MS yX9_isPlace cX9_isPlace 3 (some FieldType.boolean) 2 0 0 42 [og mC, oi z, oi v] T σ (oPb (isPlG (bxM σ mC) z v) T σ) := by
  have hMc := hM
  obtain ⟨hM0, hMr0, hMr1, hMr2, hMr3, hMr8, hMr9, hMr10, hMr11, hMr13, hMr14, hMr15, hMr16, hMr17, hMr18, hMr19, hMr20, hMk1, hMk2, hMk3, hMk4, hMk5, hMk6, hMk7, hMk8, hMk9, hMk10, hMk11, hMk12, hMk13, hMk14, hMk15, hMk16, hMT⟩ := hMc
  refine o_met (by decide +kernel) (Nat.le_of_ble_eq_true rfl) (fun p l ee s m args below meth c G b C hr hn => ?_)
  have C : oCx p s m args meth c G b RX9 cX9_isPlace 3 := C
  show oW p l ee ({ frames := 2, cells := 0, slots := 0, locals := 42 } : Room) s m args below meth c G b 3 0 0 (MQ below (o_Qc G b (oPb (isPlG (bxM σ mC) z v) T σ)) args s 0 0 (fun q => b ≤ q)) T σ 0 [some (og mC), some (oi z), some (oi v)] []
  refine r_il1 (q := 1) C dX9_isPlace_0 rfl ?_
  refine r_callSb (q := 4) C (c_X9_isBox (by omega)) m_X9_216 dX9_isPlace_1 rfl rfl (by decide) (by decide) (Nat.le_of_ble_eq_true rfl) (fun br1 => ?_) (fun br1 => ?_)
  · refine r_ifeq_f (q := 27) (q2 := 7) C (by decide) (by omega) dX9_isPlace_4 (by decide) rfl ?_
    obtain ⟨zN, rfl⟩ : ∃ zN : Nat, z = (zN : Int) := ⟨z.toNat, by omega⟩
    have hz3 : zN < 3 := by omega
    have hkz : (0 ≤ σ (mC + 10) zN ∧ σ (mC + 10) zN ≤ 3) ∧ (0 ≤ σ (mC + 11) zN ∧ σ (mC + 11) zN ≤ 8) ∧ ∀ px, px < 8 → (0 ≤ σ (mC + 12) (8 * zN + px) ∧ σ (mC + 12) (8 * zN + px) ≤ 6) ∧ (-1 ≤ σ (mC + 13) (8 * zN + px) ∧ σ (mC + 13) (8 * zN + px) ≤ 5) := hK zN hz3
    refine r_il2 (q := 8) C dX9_isPlace_7 rfl ?_
    refine r_iconst (q := 9) C dX9_isPlace_8 rfl ?_
    refine r_al0 (q := 10) C dX9_isPlace_9 rfl ?_
    refine r_getR (q := 13) C f_X9_58 dX9_isPlace_10 rfl rfl (by assumption) (by assumption) (by omega) ?_
    refine r_il1 (q := 14) C dX9_isPlace_13 rfl ?_
    refine r_iald (q := 15) C (zN) dX9_isPlace_14 rfl (by assumption) (by omega) (by omega) (by omega) (by decide) ?_
    refine r_iconst (q := 16) C dX9_isPlace_15 rfl ?_
    refine r_isub (q := 17) C dX9_isPlace_16 rfl ?_
    refine r_callSb (q := 20) C (c_X9_in hv (by omega) (by omega)) m_X9_108 dX9_isPlace_17 rfl rfl (by decide) (by decide) (Nat.le_of_ble_eq_true rfl) (fun br17 => ?_) (fun br17 => ?_)
    · refine r_ifeq_f (q := 27) (q2 := 23) C (by decide) (by omega) dX9_isPlace_20 (by decide) rfl ?_
      refine r_iconst (q := 24) C dX9_isPlace_23 rfl ?_
      refine r_goto (q := 28) C dX9_isPlace_24 (by decide) ?_
      exact r_zret C hr dX9_isPlace_28 (by decide) (by decide) (by decide) ⟨Or.inl ⟨⟨br1, by rw [Int.toNat_natCast]; exact br17⟩, rfl⟩, rfl, rfl⟩
    · refine r_ifeq_t (q := 27) C (by decide) (by omega) dX9_isPlace_20 (by decide) ?_
      refine r_iconst (q := 28) C dX9_isPlace_27 rfl ?_
      exact r_zret C hr dX9_isPlace_28 (by decide) (by decide) (by decide) ⟨Or.inr ⟨fun hc => br17 (by have q := hc.2; rw [Int.toNat_natCast] at q; exact q), rfl⟩, rfl, rfl⟩
  · refine r_ifeq_t (q := 27) C (by decide) (by omega) dX9_isPlace_4 (by decide) ?_
    refine r_iconst (q := 28) C dX9_isPlace_27 rfl ?_
    exact r_zret C hr dX9_isPlace_28 (by decide) (by decide) (by decide) ⟨Or.inr ⟨fun hc => br1 hc.1, rfl⟩, rfl, rfl⟩
set_option maxRecDepth 20000 in
set_option maxHeartbeats 8000000 in
theorem c_X9_things {T : oT} {σ : oM} {mC : Nat} (hM : oMm T mC) (hK : oBk (bxM σ mC)) {zN : Nat} (hz3 : zN < 3) : MS yX9_things cX9_things 4 (some FieldType.int) 0 0 0 0 [og mC, oi ((zN : Nat) : Int)] T σ (oP1 (oi (thingsF (bxM σ mC) zN)) T σ) := by
  have hMc := hM
  obtain ⟨hM0, hMr0, hMr1, hMr2, hMr3, hMr8, hMr9, hMr10, hMr11, hMr13, hMr14, hMr15, hMr16, hMr17, hMr18, hMr19, hMr20, hMk1, hMk2, hMk3, hMk4, hMk5, hMk6, hMk7, hMk8, hMk9, hMk10, hMk11, hMk12, hMk13, hMk14, hMk15, hMk16, hMT⟩ := hMc
  have hkz : (0 ≤ σ (mC + 10) zN ∧ σ (mC + 10) zN ≤ 3) ∧ (0 ≤ σ (mC + 11) zN ∧ σ (mC + 11) zN ≤ 8) ∧ ∀ px, px < 8 → (0 ≤ σ (mC + 12) (8 * zN + px) ∧ σ (mC + 12) (8 * zN + px) ≤ 6) ∧ (-1 ≤ σ (mC + 13) (8 * zN + px) ∧ σ (mC + 13) (8 * zN + px) ≤ 5) := hK zN hz3
  refine o_met (by decide +kernel) (Nat.le_of_ble_eq_true rfl) (fun p l ee s m args below meth c G b C hr hn => ?_)
  have C : oCx p s m args meth c G b RX9 cX9_things 4 := C
  show oW p l ee ({ frames := 0, cells := 0, slots := 0, locals := 0 } : Room) s m args below meth c G b 4 0 0 (MQ below (o_Qc G b (oP1 (oi (thingsF (bxM σ mC) zN)) T σ)) args s 0 0 (fun q => b ≤ q)) T σ 0 [some (og mC), some (oi ((zN : Nat) : Int)), none, none] []
  have lp : ∀ (n : Nat) (jx : Nat), (σ (mC + 11) zN).toNat - jx < n → ((jx : Int) ≤ σ (mC + 11) zN) → oW p l ee ({ frames := 0, cells := 0, slots := 0, locals := 0 } : Room) s m args below meth c G b 4 0 0 (MQ below (o_Qc G b (oP1 (oi (thingsF (bxM σ mC) zN)) T σ)) args s 0 0 (fun q => b ≤ q)) T σ 4 [some (og mC), some (oi ((zN : Nat) : Int)), some (oi (sumF (fun px => if 0 < σ (mC + 12) (8 * zN + px) then 1 else 0) jx)), some (oi ((jx : Nat) : Int))] [] := by
    intro n
    induction n with
    | zero =>
      intro jx hms
      exact absurd hms (Nat.not_lt_zero _)
    | succ n ih =>
      intro jx hms h1
      refine r_il3 (q := 5) C dX9_things_4 rfl ?_
      refine r_al0 (q := 6) C dX9_things_5 rfl ?_
      refine r_getR (q := 9) C f_X9_58 dX9_things_6 rfl rfl (by assumption) (by assumption) (by omega) ?_
      refine r_il1 (q := 10) C dX9_things_9 rfl ?_
      refine r_iald (q := 11) C (zN) dX9_things_10 rfl (by assumption) (by omega) (by omega) (by omega) (by decide) ?_
      refine r_icge (q := 42) (q2 := 14) C (by omega) (by omega) dX9_things_11 (by decide) rfl (fun br11 => ?_) (fun br11 => ?_)
      · refine r_il2 (q := 43) C dX9_things_42 rfl ?_
        exact r_iret C hr dX9_things_43 (by decide) (by decide) ⟨congrArg (fun q => some (oi q)) (by unfold thingsF; rw [show (bxM σ mC).2.1 zN = σ (mC + 11) zN from rfl, show σ (mC + 11) zN = (jx : Int) by omega, Int.toNat_natCast]; rfl), rfl, rfl⟩
      · have hth := (hkz.2.2 jx (by omega)).1
        refine r_il2 (q := 15) C dX9_things_14 rfl ?_
        refine r_al0 (q := 16) C dX9_things_15 rfl ?_
        refine r_getR (q := 19) C f_X9_61 dX9_things_16 rfl rfl (by assumption) (by assumption) (by omega) ?_
        refine r_bipush (q := 21) C dX9_things_19 (by decide) rfl ?_
        refine r_il1 (q := 22) C dX9_things_21 rfl ?_
        refine r_imul (q := 23) C dX9_things_22 rfl ?_
        refine r_il3 (q := 24) C dX9_things_23 rfl ?_
        refine r_iadd (q := 25) C dX9_things_24 rfl ?_
        refine r_iald (q := 26) C (8 * zN + jx) dX9_things_25 rfl (by assumption) (by omega) (by omega) (by omega) (by decide) ?_
        refine r_ifle (q := 33) (q2 := 29) C (by omega) dX9_things_26 (by decide) rfl (fun br26 => ?_) (fun br26 => ?_)
        · refine r_iconst (q := 34) C dX9_things_33 rfl ?_
          refine r_iadd (q := 35) C dX9_things_34 rfl ?_
          refine r_is2 (q := 36) C dX9_things_35 rfl (by decide) ?_
          refine r_iinc3 (q := 39) C dX9_things_36 rfl (by decide) ?_
          refine r_goto (q := 4) C dX9_things_39 (by decide) ?_
          have es : sumF (fun px => if 0 < σ (mC + 12) (8 * zN + px) then 1 else 0) (jx + 1) = sumF (fun px => if 0 < σ (mC + 12) (8 * zN + px) then 1 else 0) jx + 0 := by
            rw [sumF, if_neg (by omega)]
          rw [← es]
          exact ih (jx + 1) (by omega) (by omega)
        · refine r_iconst (q := 30) C dX9_things_29 rfl ?_
          refine r_goto (q := 34) C dX9_things_30 (by decide) ?_
          refine r_iadd (q := 35) C dX9_things_34 rfl ?_
          refine r_is2 (q := 36) C dX9_things_35 rfl (by decide) ?_
          refine r_iinc3 (q := 39) C dX9_things_36 rfl (by decide) ?_
          refine r_goto (q := 4) C dX9_things_39 (by decide) ?_
          have es : sumF (fun px => if 0 < σ (mC + 12) (8 * zN + px) then 1 else 0) (jx + 1) = sumF (fun px => if 0 < σ (mC + 12) (8 * zN + px) then 1 else 0) jx + 1 := by
            rw [sumF, if_pos (by omega)]
          rw [← es]
          exact ih (jx + 1) (by omega) (by omega)
  refine r_iconst (q := 1) C dX9_things_0 rfl ?_
  refine r_is2 (q := 2) C dX9_things_1 rfl (by decide) ?_
  refine r_iconst (q := 3) C dX9_things_2 rfl ?_
  refine r_is3 (q := 4) C dX9_things_3 rfl (by decide) ?_
  exact lp _ 0 (Nat.lt_succ_self _) (by omega)
set_option maxRecDepth 20000 in
set_option maxHeartbeats 8000000 in
theorem c_X9_box {T : oT} {σ : oM} {mC : Nat} (hM : oMm T mC) (hK : oBk (bxM σ mC)) {z v w : Int} (hz : o_r z) (hv : o_r v) (hw : o_r w) : MS yX9_box cX9_box 6 (some FieldType.int) 2 0 0 42 [og mC, oi z, oi v, oi w] T σ (oPs (fun zx σ2 => zx = (fBox (bxM σ mC) z v w).1 ∧ bxM σ2 mC = (fBox (bxM σ mC) z v w).2 ∧ ∀ x, (x < mC + 10 ∨ mC + 14 ≤ x) → σ2 x = σ x) T) := by
  have hMc := hM
  obtain ⟨hM0, hMr0, hMr1, hMr2, hMr3, hMr8, hMr9, hMr10, hMr11, hMr13, hMr14, hMr15, hMr16, hMr17, hMr18, hMr19, hMr20, hMk1, hMk2, hMk3, hMk4, hMk5, hMk6, hMk7, hMk8, hMk9, hMk10, hMk11, hMk12, hMk13, hMk14, hMk15, hMk16, hMT⟩ := hMc
  refine o_met (by decide +kernel) (Nat.le_of_ble_eq_true rfl) (fun p l ee s m args below meth c G b C hr hn => ?_)
  have C : oCx p s m args meth c G b RX9 cX9_box 6 := C
  show oW p l ee ({ frames := 2, cells := 0, slots := 0, locals := 42 } : Room) s m args below meth c G b 6 0 0 (MQ below (o_Qc G b (oPs (fun zx σ2 => zx = (fBox (bxM σ mC) z v w).1 ∧ bxM σ2 mC = (fBox (bxM σ mC) z v w).2 ∧ ∀ x, (x < mC + 10 ∨ mC + 14 ≤ x) → σ2 x = σ x) T)) args s 0 0 (fun q => b ≤ q)) T σ 0 [some (og mC), some (oi z), some (oi v), some (oi w), none, none] []
  refine r_il1 (q := 1) C dX9_box_0 rfl ?_
  refine r_callSb (q := 4) C (c_X9_isBox (by omega)) m_X9_216 dX9_box_1 rfl rfl (by decide) (by decide) (Nat.le_of_ble_eq_true rfl) (fun br1 => ?_) (fun br1 => ?_)
  · refine r_ifne_t (q := 9) C (by decide) (by omega) dX9_box_4 (by decide) ?_
    refine r_il2 (q := 10) C dX9_box_9 rfl ?_
    refine r_iconst (q := 11) C dX9_box_10 rfl ?_
    refine r_iconst (q := 12) C dX9_box_11 rfl ?_
    refine r_callSb (q := 15) C (c_X9_in hv (by omega) (by omega)) m_X9_108 dX9_box_12 rfl rfl (by decide) (by decide) (Nat.le_of_ble_eq_true rfl) (fun br12 => ?_) (fun br12 => ?_)
    · refine r_ifeq_f (q := 28) (q2 := 18) C (by decide) (by omega) dX9_box_15 (by decide) rfl ?_
      refine r_il3 (q := 19) C dX9_box_18 rfl ?_
      refine r_iconst (q := 20) C dX9_box_19 rfl ?_
      refine r_bipush (q := 22) C dX9_box_20 (by decide) rfl ?_
      refine r_callSb (q := 25) C (c_X9_in hw (by omega) (by omega)) m_X9_108 dX9_box_22 rfl rfl (by decide) (by decide) (Nat.le_of_ble_eq_true rfl) (fun br22 => ?_) (fun br22 => ?_)
      · refine r_ifne_t (q := 31) C (by decide) (by omega) dX9_box_25 (by decide) ?_
        obtain ⟨zN, rfl⟩ : ∃ zN : Nat, z = (zN : Int) := ⟨z.toNat, by omega⟩
        have hz3 : zN < 3 := by omega
        have hkz : (0 ≤ σ (mC + 10) zN ∧ σ (mC + 10) zN ≤ 3) ∧ (0 ≤ σ (mC + 11) zN ∧ σ (mC + 11) zN ≤ 8) ∧ ∀ px, px < 8 → (0 ≤ σ (mC + 12) (8 * zN + px) ∧ σ (mC + 12) (8 * zN + px) ≤ 6) ∧ (-1 ≤ σ (mC + 13) (8 * zN + px) ∧ σ (mC + 13) (8 * zN + px) ≤ 5) := hK zN hz3
        have hs := fBox.eq_1 (bxM σ mC) (zN : Int) v w
        rw [if_pos br1, if_pos ⟨br12, br22⟩] at hs
        simp only [Int.toNat_natCast] at hs
        refine r_al0 (q := 32) C dX9_box_31 rfl ?_
        refine r_il1 (q := 33) C dX9_box_32 rfl ?_
        refine r_callV1 (q := 36) C (c_X9_things (zN := zN) hM hK hz3) m_X9_219 (by assumption) (by omega) dX9_box_33 rfl rfl (by decide) (by decide) (Nat.le_of_ble_eq_true rfl) ?_
        refine r_is4 (q := 38) C dX9_box_36 rfl (by decide) ?_
        refine r_al0 (q := 39) C dX9_box_38 rfl ?_
        refine r_getR (q := 42) C f_X9_55 dX9_box_39 rfl rfl (by assumption) (by assumption) (by omega) ?_
        refine r_il1 (q := 43) C dX9_box_42 rfl ?_
        refine r_il2 (q := 44) C dX9_box_43 rfl ?_
        refine r_iast (q := 45) C (zN) dX9_box_44 rfl (by assumption) (by omega) (by omega) (by omega) (by decide) ?_
        refine r_al0 (q := 46) C dX9_box_45 rfl ?_
        refine r_getR (q := 49) C f_X9_58 dX9_box_46 rfl rfl (by assumption) (by assumption) (by omega) ?_
        refine r_il1 (q := 50) C dX9_box_49 rfl ?_
        refine r_il3 (q := 51) C dX9_box_50 rfl ?_
        refine r_iast (q := 52) C (zN) dX9_box_51 rfl (by assumption) (by omega) (by omega) (by omega) (by decide) ?_
        refine r_iconst (q := 53) C dX9_box_52 rfl ?_
        refine r_is5 (q := 55) C dX9_box_53 rfl (by decide) ?_
        have lp : ∀ (n : Nat) (kx : Nat), 8 - kx < n → (kx ≤ 8) → oW p l ee ({ frames := 2, cells := 0, slots := 0, locals := 42 } : Room) s m args below meth c G b 6 0 0 (MQ below (o_Qc G b (oPs (fun zx σ2 => zx = (fBox (bxM σ mC) (zN : Int) v w).1 ∧ bxM σ2 mC = (fBox (bxM σ mC) (zN : Int) v w).2 ∧ ∀ x, (x < mC + 10 ∨ mC + 14 ≤ x) → σ2 x = σ x) T)) args s 0 0 (fun q => b ≤ q)) T (o_row (o_up (o_up σ (mC + 10) zN v) (mC + 11) zN w) (mC + 12) (clrF (σ (mC + 12)) (8 * zN) kx)) 55 [some (og mC), some (oi ((zN : Nat) : Int)), some (oi v), some (oi w), some (oi (thingsF (bxM σ mC) zN)), some (oi ((kx : Nat) : Int))] [] := by
          intro n
          induction n with
          | zero =>
            intro kx hms
            exact absurd hms (Nat.not_lt_zero _)
          | succ n ih =>
            intro kx hms k1
            refine r_il5 (q := 57) C dX9_box_55 rfl ?_
            refine r_bipush (q := 59) C dX9_box_57 (by decide) rfl ?_
            refine r_icge (q := 81) (q2 := 62) C (by omega) (by omega) dX9_box_59 (by decide) rfl (fun br59 => ?_) (fun br59 => ?_)
            · refine r_il4 (q := 83) C dX9_box_81 rfl ?_
              exact r_iret C hr dX9_box_83 (by decide) (by decide) ⟨_, rfl, rfl, by rw [hs], by rw [hs, show kx = 8 by omega]; unfold bxM boxF; rw [o_row_ne (by omega), o_row_ne (by omega), o_row_at, o_row_ne (by omega), o_up_ne (by omega), o_upF, o_upF, o_up_ne (by omega), o_up_ne (by omega), o_up_ne (by omega)], fun x hx => by rw [o_row_ne (by omega), o_up_ne (by omega), o_up_ne (by omega)]⟩
            · refine r_al0 (q := 63) C dX9_box_62 rfl ?_
              refine r_getR (q := 66) C f_X9_61 dX9_box_63 rfl rfl (by assumption) (by assumption) (by omega) ?_
              refine r_bipush (q := 68) C dX9_box_66 (by decide) rfl ?_
              refine r_il1 (q := 69) C dX9_box_68 rfl ?_
              refine r_imul (q := 70) C dX9_box_69 rfl ?_
              refine r_il5 (q := 72) C dX9_box_70 rfl ?_
              refine r_iadd (q := 73) C dX9_box_72 rfl ?_
              refine r_iconst (q := 74) C dX9_box_73 rfl ?_
              refine r_iast (q := 75) C (8 * zN + kx) dX9_box_74 rfl (by assumption) (by omega) (by omega) (by omega) (by decide) ?_
              rw [o_row_up, clrF_s]
              refine r_iinc5 (q := 78) C dX9_box_75 rfl (by decide) ?_
              refine r_goto (q := 55) C dX9_box_78 (by decide) ?_
              exact ih (kx + 1) (by omega) (by omega)
        have h0 := lp _ 0 (Nat.lt_succ_self _) (by omega)
        rw [clrF_0, show o_row (o_up (o_up σ (mC + 10) zN v) (mC + 11) zN w) (mC + 12) (σ (mC + 12)) = o_up (o_up σ (mC + 10) zN v) (mC + 11) zN w by rw [show σ (mC + 12) = o_up (o_up σ (mC + 10) zN v) (mC + 11) zN w (mC + 12) by rw [o_up_ne (by omega), o_up_ne (by omega)]]; exact o_row_self] at h0
        exact h0
      · refine r_ifne_f (q := 31) (q2 := 28) C (by decide) (by omega) dX9_box_25 (by decide) rfl ?_
        refine r_bipush (q := 30) C dX9_box_28 (by decide) rfl ?_
        exact r_iret C hr dX9_box_30 (by decide) (by decide) ⟨_, rfl, rfl, by rw [fBox, if_pos br1, if_neg (fun hc => br22 hc.2)], by rw [fBox, if_pos br1, if_neg (fun hc => br22 hc.2)], fun _ _ => rfl⟩
    · refine r_ifeq_t (q := 28) C (by decide) (by omega) dX9_box_15 (by decide) ?_
      refine r_bipush (q := 30) C dX9_box_28 (by decide) rfl ?_
      exact r_iret C hr dX9_box_30 (by decide) (by decide) ⟨_, rfl, rfl, by rw [fBox, if_pos br1, if_neg (fun hc => br12 hc.1)], by rw [fBox, if_pos br1, if_neg (fun hc => br12 hc.1)], fun _ _ => rfl⟩
  · refine r_ifne_f (q := 9) (q2 := 7) C (by decide) (by omega) dX9_box_4 (by decide) rfl ?_
    refine r_iconst (q := 8) C dX9_box_7 rfl ?_
    exact r_iret C hr dX9_box_8 (by decide) (by decide) ⟨_, rfl, rfl, by rw [fBox, if_neg br1], by rw [fBox, if_neg br1], fun _ _ => rfl⟩
set_option maxRecDepth 20000 in
set_option maxHeartbeats 8000000 in
theorem c_X9_put {T : oT} {σ : oM} {mC : Nat} (hM : oMm T mC) {Bd : Int} (hI : oI Bd (σ (mC + 1))) (hK : oBk (bxM σ mC)) {z v w u : Int} (hz : o_r z) (hv : o_r v) (hw : o_r w) (hu : o_r u) : MS yX9_put cX9_put 7 (some FieldType.int) 3 0 0 64 [og mC, oi z, oi v, oi w, oi u] T σ (oPs (fun zx σ2 => zx = (fPut (σ (mC + 1)) (bxM σ mC) z v w u).1 ∧ bxM σ2 mC = (fPut (σ (mC + 1)) (bxM σ mC) z v w u).2 ∧ ∀ x, (x < mC + 10 ∨ mC + 14 ≤ x) → σ2 x = σ x) T) := by
  have hMc := hM
  obtain ⟨hM0, hMr0, hMr1, hMr2, hMr3, hMr8, hMr9, hMr10, hMr11, hMr13, hMr14, hMr15, hMr16, hMr17, hMr18, hMr19, hMr20, hMk1, hMk2, hMk3, hMk4, hMk5, hMk6, hMk7, hMk8, hMk9, hMk10, hMk11, hMk12, hMk13, hMk14, hMk15, hMk16, hMT⟩ := hMc
  have hI0 := hI.2.1
  have hI1 := hI.2.2.1
  have hI2 := hI.2.2.2.1
  have hIn := oI_n hI
  have hIB := hI.1
  refine o_met (by decide +kernel) (Nat.le_of_ble_eq_true rfl) (fun p l ee s m args below meth c G b C hr hn => ?_)
  have C : oCx p s m args meth c G b RX9 cX9_put 7 := C
  show oW p l ee ({ frames := 3, cells := 0, slots := 0, locals := 64 } : Room) s m args below meth c G b 7 0 0 (MQ below (o_Qc G b (oPs (fun zx σ2 => zx = (fPut (σ (mC + 1)) (bxM σ mC) z v w u).1 ∧ bxM σ2 mC = (fPut (σ (mC + 1)) (bxM σ mC) z v w u).2 ∧ ∀ x, (x < mC + 10 ∨ mC + 14 ≤ x) → σ2 x = σ x) T)) args s 0 0 (fun q => b ≤ q)) T σ 0 [some (og mC), some (oi z), some (oi v), some (oi w), some (oi u), none, none] []
  refine r_al0 (q := 1) C dX9_put_0 rfl ?_
  refine r_il1 (q := 2) C dX9_put_1 rfl ?_
  refine r_il2 (q := 3) C dX9_put_2 rfl ?_
  refine r_callVb (q := 6) C (c_X9_isPlace hM hK (by omega) (by omega)) m_X9_222 (by assumption) (by omega) dX9_put_3 rfl rfl (by decide) (by decide) (Nat.le_of_ble_eq_true rfl) (fun br3 => ?_) (fun br3 => ?_)
  · refine r_ifeq_f (q := 27) (q2 := 9) C (by decide) (by omega) dX9_put_6 (by decide) rfl ?_
    have hbz := br3.1
    obtain ⟨zN, rfl⟩ : ∃ zN : Nat, z = (zN : Int) := ⟨z.toNat, by omega⟩
    have hz3 : zN < 3 := by omega
    have hkz : (0 ≤ σ (mC + 10) zN ∧ σ (mC + 10) zN ≤ 3) ∧ (0 ≤ σ (mC + 11) zN ∧ σ (mC + 11) zN ≤ 8) ∧ ∀ px, px < 8 → (0 ≤ σ (mC + 12) (8 * zN + px) ∧ σ (mC + 12) (8 * zN + px) ≤ 6) ∧ (-1 ≤ σ (mC + 13) (8 * zN + px) ∧ σ (mC + 13) (8 * zN + px) ≤ 5) := hK zN hz3
    obtain ⟨pN, rfl⟩ : ∃ pN : Nat, v = (pN : Int) := ⟨v.toNat, by have := br3.2; omega⟩
    have hp8 : pN < 8 := by
      have q1 := br3.2.2
      rw [Int.toNat_natCast] at q1
      have q3 : (bxM σ mC).2.1 zN = σ (mC + 11) zN := rfl
      omega
    have hkp := hkz.2.2 pN hp8
    refine r_al0 (q := 10) C dX9_put_9 rfl ?_
    refine r_il3 (q := 11) C dX9_put_10 rfl ?_
    refine r_callVb (q := 14) C (c_X9_isEdition hM hI hw) m_X9_112 (by assumption) (by omega) dX9_put_11 rfl rfl (by decide) (by decide) (Nat.le_of_ble_eq_true rfl) (fun br11 => ?_) (fun br11 => ?_)
    · refine r_ifeq_f (q := 27) (q2 := 17) C (by decide) (by omega) dX9_put_14 (by decide) rfl ?_
      refine r_il4 (q := 19) C dX9_put_17 rfl ?_
      refine r_iconst (q := 20) C dX9_put_19 rfl ?_
      refine r_iconst (q := 21) C dX9_put_20 rfl ?_
      refine r_callSb (q := 24) C (c_X9_in hu (by omega) (by omega)) m_X9_108 dX9_put_21 rfl rfl (by decide) (by decide) (Nat.le_of_ble_eq_true rfl) (fun br21 => ?_) (fun br21 => ?_)
      · refine r_ifne_t (q := 29) C (by decide) (by omega) dX9_put_24 (by decide) ?_
        have hs := fPut.eq_1 (σ (mC + 1)) (bxM σ mC) (zN : Int) (pN : Int) w u
        rw [if_pos ⟨br3, br11, br21⟩] at hs
        simp only [Int.toNat_natCast] at hs
        have hb0 : (bxM σ mC).1 zN = σ (mC + 10) zN := rfl
        have hb2 : (bxM σ mC).2.2.1 (8 * zN + pN) = σ (mC + 12) (8 * zN + pN) := rfl
        refine r_al0 (q := 30) C dX9_put_29 rfl ?_
        refine r_getR (q := 33) C f_X9_55 dX9_put_30 rfl rfl (by assumption) (by assumption) (by omega) ?_
        refine r_il1 (q := 34) C dX9_put_33 rfl ?_
        refine r_iald (q := 35) C (zN) dX9_put_34 rfl (by assumption) (by omega) (by omega) (by omega) (by decide) ?_
        refine r_iconst (q := 36) C dX9_put_35 rfl ?_
        refine r_icne (q := 44) (q2 := 39) C (by omega) (by omega) dX9_put_36 (by decide) rfl (fun br36 => ?_) (fun br36 => ?_)
        · refine r_al0 (q := 45) C dX9_put_44 rfl ?_
          refine r_getR (q := 48) C f_X9_55 dX9_put_45 rfl rfl (by assumption) (by assumption) (by omega) ?_
          refine r_il1 (q := 49) C dX9_put_48 rfl ?_
          refine r_iald (q := 50) C (zN) dX9_put_49 rfl (by assumption) (by omega) (by omega) (by omega) (by decide) ?_
          refine r_iconst (q := 51) C dX9_put_50 rfl ?_
          refine r_icne (q := 59) (q2 := 54) C (by omega) (by omega) dX9_put_51 (by decide) rfl (fun br51 => ?_) (fun br51 => ?_)
          · refine r_al0 (q := 60) C dX9_put_59 rfl ?_
            refine r_getR (q := 63) C f_X9_55 dX9_put_60 rfl rfl (by assumption) (by assumption) (by omega) ?_
            refine r_il1 (q := 64) C dX9_put_63 rfl ?_
            refine r_iald (q := 65) C (zN) dX9_put_64 rfl (by assumption) (by omega) (by omega) (by omega) (by decide) ?_
            refine r_iconst (q := 66) C dX9_put_65 rfl ?_
            refine r_icne (q := 82) (q2 := 69) C (by omega) (by omega) dX9_put_66 (by decide) rfl (fun br66 => ?_) (fun br66 => ?_)
            · have hnt : ¬ noTkG ((bxM σ mC).1 zN) u := by
                unfold noTkG
                rw [hb0]
                omega
              rw [if_neg hnt] at hs
              refine r_bipush (q := 84) C dX9_put_82 (by decide) rfl ?_
              refine r_il1 (q := 85) C dX9_put_84 rfl ?_
              refine r_imul (q := 86) C dX9_put_85 rfl ?_
              refine r_il2 (q := 87) C dX9_put_86 rfl ?_
              refine r_iadd (q := 88) C dX9_put_87 rfl ?_
              refine r_is5 (q := 90) C dX9_put_88 rfl (by decide) ?_
              refine r_al0 (q := 91) C dX9_put_90 rfl ?_
              refine r_getR (q := 94) C f_X9_61 dX9_put_91 rfl rfl (by assumption) (by assumption) (by omega) ?_
              refine r_il5 (q := 96) C dX9_put_94 rfl ?_
              refine r_iald (q := 97) C ((8 * zN + pN)) dX9_put_96 rfl (by assumption) (by omega) (by omega) (by omega) (by decide) ?_
              refine r_ifne (q := 104) (q2 := 100) C (by omega) dX9_put_97 (by decide) rfl (fun br97 => ?_) (fun br97 => ?_)
              · refine r_iconst (q := 105) C dX9_put_104 rfl ?_
                refine r_is6 (q := 107) C dX9_put_105 rfl (by decide) ?_
                refine r_al0 (q := 108) C dX9_put_107 rfl ?_
                refine r_getR (q := 111) C f_X9_61 dX9_put_108 rfl rfl (by assumption) (by assumption) (by omega) ?_
                refine r_il5 (q := 113) C dX9_put_111 rfl ?_
                refine r_il3 (q := 114) C dX9_put_113 rfl ?_
                refine r_iconst (q := 115) C dX9_put_114 rfl ?_
                refine r_iadd (q := 116) C dX9_put_115 rfl ?_
                refine r_iast (q := 117) C ((8 * zN + pN)) dX9_put_116 rfl (by assumption) (by omega) (by omega) (by omega) (by decide) ?_
                refine r_al0 (q := 118) C dX9_put_117 rfl ?_
                refine r_getR (q := 121) C f_X9_64 dX9_put_118 rfl rfl (by assumption) (by assumption) (by omega) ?_
                refine r_il5 (q := 123) C dX9_put_121 rfl ?_
                refine r_il4 (q := 125) C dX9_put_123 rfl ?_
                refine r_iast (q := 126) C ((8 * zN + pN)) dX9_put_125 rfl (by assumption) (by omega) (by omega) (by omega) (by decide) ?_
                refine r_il6 (q := 128) C dX9_put_126 rfl ?_
                refine r_ifeq_t (q := 135) C (by decide) (by omega) dX9_put_128 (by decide) ?_
                refine r_iconst (q := 136) C dX9_put_135 rfl ?_
                exact r_iret C hr dX9_put_136 (by decide) (by decide) ⟨_, rfl, rfl, by rw [hs, if_neg (by rw [hb2]; omega)], by rw [hs]; unfold bxM putF; rw [o_up_ne (by omega), o_up_ne (by omega), o_up_ne (by omega), o_up_ne (by omega), o_up_ne (by omega), o_upF, o_upF, o_up_ne (by omega)], fun x hx => by rw [o_up_ne (by omega), o_up_ne (by omega)]⟩
              · refine r_iconst (q := 101) C dX9_put_100 rfl ?_
                refine r_goto (q := 105) C dX9_put_101 (by decide) ?_
                refine r_is6 (q := 107) C dX9_put_105 rfl (by decide) ?_
                refine r_al0 (q := 108) C dX9_put_107 rfl ?_
                refine r_getR (q := 111) C f_X9_61 dX9_put_108 rfl rfl (by assumption) (by assumption) (by omega) ?_
                refine r_il5 (q := 113) C dX9_put_111 rfl ?_
                refine r_il3 (q := 114) C dX9_put_113 rfl ?_
                refine r_iconst (q := 115) C dX9_put_114 rfl ?_
                refine r_iadd (q := 116) C dX9_put_115 rfl ?_
                refine r_iast (q := 117) C ((8 * zN + pN)) dX9_put_116 rfl (by assumption) (by omega) (by omega) (by omega) (by decide) ?_
                refine r_al0 (q := 118) C dX9_put_117 rfl ?_
                refine r_getR (q := 121) C f_X9_64 dX9_put_118 rfl rfl (by assumption) (by assumption) (by omega) ?_
                refine r_il5 (q := 123) C dX9_put_121 rfl ?_
                refine r_il4 (q := 125) C dX9_put_123 rfl ?_
                refine r_iast (q := 126) C ((8 * zN + pN)) dX9_put_125 rfl (by assumption) (by omega) (by omega) (by omega) (by decide) ?_
                refine r_il6 (q := 128) C dX9_put_126 rfl ?_
                refine r_ifeq_f (q := 135) (q2 := 131) C (by decide) (by omega) dX9_put_128 (by decide) rfl ?_
                refine r_iconst (q := 132) C dX9_put_131 rfl ?_
                refine r_goto (q := 136) C dX9_put_132 (by decide) ?_
                exact r_iret C hr dX9_put_136 (by decide) (by decide) ⟨_, rfl, rfl, by rw [hs, if_pos (by rw [hb2]; omega)], by rw [hs]; unfold bxM putF; rw [o_up_ne (by omega), o_up_ne (by omega), o_up_ne (by omega), o_up_ne (by omega), o_up_ne (by omega), o_upF, o_upF, o_up_ne (by omega)], fun x hx => by rw [o_up_ne (by omega), o_up_ne (by omega)]⟩
            · refine r_il4 (q := 71) C dX9_put_69 rfl ?_
              refine r_iconst (q := 72) C dX9_put_71 rfl ?_
              refine r_iconst (q := 73) C dX9_put_72 rfl ?_
              refine r_callSb (q := 76) C (c_X9_in hu (by omega) (by omega)) m_X9_108 dX9_put_73 rfl rfl (by decide) (by decide) (Nat.le_of_ble_eq_true rfl) (fun br73 => ?_) (fun br73 => ?_)
              · refine r_ifne_t (q := 82) C (by decide) (by omega) dX9_put_76 (by decide) ?_
                have hnt : ¬ noTkG ((bxM σ mC).1 zN) u := by
                  unfold noTkG
                  rw [hb0]
                  omega
                rw [if_neg hnt] at hs
                refine r_bipush (q := 84) C dX9_put_82 (by decide) rfl ?_
                refine r_il1 (q := 85) C dX9_put_84 rfl ?_
                refine r_imul (q := 86) C dX9_put_85 rfl ?_
                refine r_il2 (q := 87) C dX9_put_86 rfl ?_
                refine r_iadd (q := 88) C dX9_put_87 rfl ?_
                refine r_is5 (q := 90) C dX9_put_88 rfl (by decide) ?_
                refine r_al0 (q := 91) C dX9_put_90 rfl ?_
                refine r_getR (q := 94) C f_X9_61 dX9_put_91 rfl rfl (by assumption) (by assumption) (by omega) ?_
                refine r_il5 (q := 96) C dX9_put_94 rfl ?_
                refine r_iald (q := 97) C ((8 * zN + pN)) dX9_put_96 rfl (by assumption) (by omega) (by omega) (by omega) (by decide) ?_
                refine r_ifne (q := 104) (q2 := 100) C (by omega) dX9_put_97 (by decide) rfl (fun br97 => ?_) (fun br97 => ?_)
                · refine r_iconst (q := 105) C dX9_put_104 rfl ?_
                  refine r_is6 (q := 107) C dX9_put_105 rfl (by decide) ?_
                  refine r_al0 (q := 108) C dX9_put_107 rfl ?_
                  refine r_getR (q := 111) C f_X9_61 dX9_put_108 rfl rfl (by assumption) (by assumption) (by omega) ?_
                  refine r_il5 (q := 113) C dX9_put_111 rfl ?_
                  refine r_il3 (q := 114) C dX9_put_113 rfl ?_
                  refine r_iconst (q := 115) C dX9_put_114 rfl ?_
                  refine r_iadd (q := 116) C dX9_put_115 rfl ?_
                  refine r_iast (q := 117) C ((8 * zN + pN)) dX9_put_116 rfl (by assumption) (by omega) (by omega) (by omega) (by decide) ?_
                  refine r_al0 (q := 118) C dX9_put_117 rfl ?_
                  refine r_getR (q := 121) C f_X9_64 dX9_put_118 rfl rfl (by assumption) (by assumption) (by omega) ?_
                  refine r_il5 (q := 123) C dX9_put_121 rfl ?_
                  refine r_il4 (q := 125) C dX9_put_123 rfl ?_
                  refine r_iast (q := 126) C ((8 * zN + pN)) dX9_put_125 rfl (by assumption) (by omega) (by omega) (by omega) (by decide) ?_
                  refine r_il6 (q := 128) C dX9_put_126 rfl ?_
                  refine r_ifeq_t (q := 135) C (by decide) (by omega) dX9_put_128 (by decide) ?_
                  refine r_iconst (q := 136) C dX9_put_135 rfl ?_
                  exact r_iret C hr dX9_put_136 (by decide) (by decide) ⟨_, rfl, rfl, by rw [hs, if_neg (by rw [hb2]; omega)], by rw [hs]; unfold bxM putF; rw [o_up_ne (by omega), o_up_ne (by omega), o_up_ne (by omega), o_up_ne (by omega), o_up_ne (by omega), o_upF, o_upF, o_up_ne (by omega)], fun x hx => by rw [o_up_ne (by omega), o_up_ne (by omega)]⟩
                · refine r_iconst (q := 101) C dX9_put_100 rfl ?_
                  refine r_goto (q := 105) C dX9_put_101 (by decide) ?_
                  refine r_is6 (q := 107) C dX9_put_105 rfl (by decide) ?_
                  refine r_al0 (q := 108) C dX9_put_107 rfl ?_
                  refine r_getR (q := 111) C f_X9_61 dX9_put_108 rfl rfl (by assumption) (by assumption) (by omega) ?_
                  refine r_il5 (q := 113) C dX9_put_111 rfl ?_
                  refine r_il3 (q := 114) C dX9_put_113 rfl ?_
                  refine r_iconst (q := 115) C dX9_put_114 rfl ?_
                  refine r_iadd (q := 116) C dX9_put_115 rfl ?_
                  refine r_iast (q := 117) C ((8 * zN + pN)) dX9_put_116 rfl (by assumption) (by omega) (by omega) (by omega) (by decide) ?_
                  refine r_al0 (q := 118) C dX9_put_117 rfl ?_
                  refine r_getR (q := 121) C f_X9_64 dX9_put_118 rfl rfl (by assumption) (by assumption) (by omega) ?_
                  refine r_il5 (q := 123) C dX9_put_121 rfl ?_
                  refine r_il4 (q := 125) C dX9_put_123 rfl ?_
                  refine r_iast (q := 126) C ((8 * zN + pN)) dX9_put_125 rfl (by assumption) (by omega) (by omega) (by omega) (by decide) ?_
                  refine r_il6 (q := 128) C dX9_put_126 rfl ?_
                  refine r_ifeq_f (q := 135) (q2 := 131) C (by decide) (by omega) dX9_put_128 (by decide) rfl ?_
                  refine r_iconst (q := 132) C dX9_put_131 rfl ?_
                  refine r_goto (q := 136) C dX9_put_132 (by decide) ?_
                  exact r_iret C hr dX9_put_136 (by decide) (by decide) ⟨_, rfl, rfl, by rw [hs, if_pos (by rw [hb2]; omega)], by rw [hs]; unfold bxM putF; rw [o_up_ne (by omega), o_up_ne (by omega), o_up_ne (by omega), o_up_ne (by omega), o_up_ne (by omega), o_upF, o_upF, o_up_ne (by omega)], fun x hx => by rw [o_up_ne (by omega), o_up_ne (by omega)]⟩
              · refine r_ifne_f (q := 82) (q2 := 79) C (by decide) (by omega) dX9_put_76 (by decide) rfl ?_
                refine r_bipush (q := 81) C dX9_put_79 (by decide) rfl ?_
                exact r_iret C hr dX9_put_81 (by decide) (by decide) ⟨_, rfl, rfl, by rw [hs, if_pos (by unfold noTkG; rw [hb0]; omega)], by rw [hs, if_pos (by unfold noTkG; rw [hb0]; omega)], fun _ _ => rfl⟩
          · refine r_il4 (q := 56) C dX9_put_54 rfl ?_
            refine r_iflt (q := 79) (q2 := 59) C (by omega) dX9_put_56 (by decide) rfl (fun br56 => ?_) (fun br56 => ?_)
            · refine r_bipush (q := 81) C dX9_put_79 (by decide) rfl ?_
              exact r_iret C hr dX9_put_81 (by decide) (by decide) ⟨_, rfl, rfl, by rw [hs, if_pos (by unfold noTkG; rw [hb0]; omega)], by rw [hs, if_pos (by unfold noTkG; rw [hb0]; omega)], fun _ _ => rfl⟩
            · refine r_al0 (q := 60) C dX9_put_59 rfl ?_
              refine r_getR (q := 63) C f_X9_55 dX9_put_60 rfl rfl (by assumption) (by assumption) (by omega) ?_
              refine r_il1 (q := 64) C dX9_put_63 rfl ?_
              refine r_iald (q := 65) C (zN) dX9_put_64 rfl (by assumption) (by omega) (by omega) (by omega) (by decide) ?_
              refine r_iconst (q := 66) C dX9_put_65 rfl ?_
              refine r_icne (q := 82) (q2 := 69) C (by omega) (by omega) dX9_put_66 (by decide) rfl (fun br66 => ?_) (fun br66 => ?_)
              · have hnt : ¬ noTkG ((bxM σ mC).1 zN) u := by
                  unfold noTkG
                  rw [hb0]
                  omega
                rw [if_neg hnt] at hs
                refine r_bipush (q := 84) C dX9_put_82 (by decide) rfl ?_
                refine r_il1 (q := 85) C dX9_put_84 rfl ?_
                refine r_imul (q := 86) C dX9_put_85 rfl ?_
                refine r_il2 (q := 87) C dX9_put_86 rfl ?_
                refine r_iadd (q := 88) C dX9_put_87 rfl ?_
                refine r_is5 (q := 90) C dX9_put_88 rfl (by decide) ?_
                refine r_al0 (q := 91) C dX9_put_90 rfl ?_
                refine r_getR (q := 94) C f_X9_61 dX9_put_91 rfl rfl (by assumption) (by assumption) (by omega) ?_
                refine r_il5 (q := 96) C dX9_put_94 rfl ?_
                refine r_iald (q := 97) C ((8 * zN + pN)) dX9_put_96 rfl (by assumption) (by omega) (by omega) (by omega) (by decide) ?_
                refine r_ifne (q := 104) (q2 := 100) C (by omega) dX9_put_97 (by decide) rfl (fun br97 => ?_) (fun br97 => ?_)
                · refine r_iconst (q := 105) C dX9_put_104 rfl ?_
                  refine r_is6 (q := 107) C dX9_put_105 rfl (by decide) ?_
                  refine r_al0 (q := 108) C dX9_put_107 rfl ?_
                  refine r_getR (q := 111) C f_X9_61 dX9_put_108 rfl rfl (by assumption) (by assumption) (by omega) ?_
                  refine r_il5 (q := 113) C dX9_put_111 rfl ?_
                  refine r_il3 (q := 114) C dX9_put_113 rfl ?_
                  refine r_iconst (q := 115) C dX9_put_114 rfl ?_
                  refine r_iadd (q := 116) C dX9_put_115 rfl ?_
                  refine r_iast (q := 117) C ((8 * zN + pN)) dX9_put_116 rfl (by assumption) (by omega) (by omega) (by omega) (by decide) ?_
                  refine r_al0 (q := 118) C dX9_put_117 rfl ?_
                  refine r_getR (q := 121) C f_X9_64 dX9_put_118 rfl rfl (by assumption) (by assumption) (by omega) ?_
                  refine r_il5 (q := 123) C dX9_put_121 rfl ?_
                  refine r_il4 (q := 125) C dX9_put_123 rfl ?_
                  refine r_iast (q := 126) C ((8 * zN + pN)) dX9_put_125 rfl (by assumption) (by omega) (by omega) (by omega) (by decide) ?_
                  refine r_il6 (q := 128) C dX9_put_126 rfl ?_
                  refine r_ifeq_t (q := 135) C (by decide) (by omega) dX9_put_128 (by decide) ?_
                  refine r_iconst (q := 136) C dX9_put_135 rfl ?_
                  exact r_iret C hr dX9_put_136 (by decide) (by decide) ⟨_, rfl, rfl, by rw [hs, if_neg (by rw [hb2]; omega)], by rw [hs]; unfold bxM putF; rw [o_up_ne (by omega), o_up_ne (by omega), o_up_ne (by omega), o_up_ne (by omega), o_up_ne (by omega), o_upF, o_upF, o_up_ne (by omega)], fun x hx => by rw [o_up_ne (by omega), o_up_ne (by omega)]⟩
                · refine r_iconst (q := 101) C dX9_put_100 rfl ?_
                  refine r_goto (q := 105) C dX9_put_101 (by decide) ?_
                  refine r_is6 (q := 107) C dX9_put_105 rfl (by decide) ?_
                  refine r_al0 (q := 108) C dX9_put_107 rfl ?_
                  refine r_getR (q := 111) C f_X9_61 dX9_put_108 rfl rfl (by assumption) (by assumption) (by omega) ?_
                  refine r_il5 (q := 113) C dX9_put_111 rfl ?_
                  refine r_il3 (q := 114) C dX9_put_113 rfl ?_
                  refine r_iconst (q := 115) C dX9_put_114 rfl ?_
                  refine r_iadd (q := 116) C dX9_put_115 rfl ?_
                  refine r_iast (q := 117) C ((8 * zN + pN)) dX9_put_116 rfl (by assumption) (by omega) (by omega) (by omega) (by decide) ?_
                  refine r_al0 (q := 118) C dX9_put_117 rfl ?_
                  refine r_getR (q := 121) C f_X9_64 dX9_put_118 rfl rfl (by assumption) (by assumption) (by omega) ?_
                  refine r_il5 (q := 123) C dX9_put_121 rfl ?_
                  refine r_il4 (q := 125) C dX9_put_123 rfl ?_
                  refine r_iast (q := 126) C ((8 * zN + pN)) dX9_put_125 rfl (by assumption) (by omega) (by omega) (by omega) (by decide) ?_
                  refine r_il6 (q := 128) C dX9_put_126 rfl ?_
                  refine r_ifeq_f (q := 135) (q2 := 131) C (by decide) (by omega) dX9_put_128 (by decide) rfl ?_
                  refine r_iconst (q := 132) C dX9_put_131 rfl ?_
                  refine r_goto (q := 136) C dX9_put_132 (by decide) ?_
                  exact r_iret C hr dX9_put_136 (by decide) (by decide) ⟨_, rfl, rfl, by rw [hs, if_pos (by rw [hb2]; omega)], by rw [hs]; unfold bxM putF; rw [o_up_ne (by omega), o_up_ne (by omega), o_up_ne (by omega), o_up_ne (by omega), o_up_ne (by omega), o_upF, o_upF, o_up_ne (by omega)], fun x hx => by rw [o_up_ne (by omega), o_up_ne (by omega)]⟩
              · refine r_il4 (q := 71) C dX9_put_69 rfl ?_
                refine r_iconst (q := 72) C dX9_put_71 rfl ?_
                refine r_iconst (q := 73) C dX9_put_72 rfl ?_
                refine r_callSb (q := 76) C (c_X9_in hu (by omega) (by omega)) m_X9_108 dX9_put_73 rfl rfl (by decide) (by decide) (Nat.le_of_ble_eq_true rfl) (fun br73 => ?_) (fun br73 => ?_)
                · refine r_ifne_t (q := 82) C (by decide) (by omega) dX9_put_76 (by decide) ?_
                  have hnt : ¬ noTkG ((bxM σ mC).1 zN) u := by
                    unfold noTkG
                    rw [hb0]
                    omega
                  rw [if_neg hnt] at hs
                  refine r_bipush (q := 84) C dX9_put_82 (by decide) rfl ?_
                  refine r_il1 (q := 85) C dX9_put_84 rfl ?_
                  refine r_imul (q := 86) C dX9_put_85 rfl ?_
                  refine r_il2 (q := 87) C dX9_put_86 rfl ?_
                  refine r_iadd (q := 88) C dX9_put_87 rfl ?_
                  refine r_is5 (q := 90) C dX9_put_88 rfl (by decide) ?_
                  refine r_al0 (q := 91) C dX9_put_90 rfl ?_
                  refine r_getR (q := 94) C f_X9_61 dX9_put_91 rfl rfl (by assumption) (by assumption) (by omega) ?_
                  refine r_il5 (q := 96) C dX9_put_94 rfl ?_
                  refine r_iald (q := 97) C ((8 * zN + pN)) dX9_put_96 rfl (by assumption) (by omega) (by omega) (by omega) (by decide) ?_
                  refine r_ifne (q := 104) (q2 := 100) C (by omega) dX9_put_97 (by decide) rfl (fun br97 => ?_) (fun br97 => ?_)
                  · refine r_iconst (q := 105) C dX9_put_104 rfl ?_
                    refine r_is6 (q := 107) C dX9_put_105 rfl (by decide) ?_
                    refine r_al0 (q := 108) C dX9_put_107 rfl ?_
                    refine r_getR (q := 111) C f_X9_61 dX9_put_108 rfl rfl (by assumption) (by assumption) (by omega) ?_
                    refine r_il5 (q := 113) C dX9_put_111 rfl ?_
                    refine r_il3 (q := 114) C dX9_put_113 rfl ?_
                    refine r_iconst (q := 115) C dX9_put_114 rfl ?_
                    refine r_iadd (q := 116) C dX9_put_115 rfl ?_
                    refine r_iast (q := 117) C ((8 * zN + pN)) dX9_put_116 rfl (by assumption) (by omega) (by omega) (by omega) (by decide) ?_
                    refine r_al0 (q := 118) C dX9_put_117 rfl ?_
                    refine r_getR (q := 121) C f_X9_64 dX9_put_118 rfl rfl (by assumption) (by assumption) (by omega) ?_
                    refine r_il5 (q := 123) C dX9_put_121 rfl ?_
                    refine r_il4 (q := 125) C dX9_put_123 rfl ?_
                    refine r_iast (q := 126) C ((8 * zN + pN)) dX9_put_125 rfl (by assumption) (by omega) (by omega) (by omega) (by decide) ?_
                    refine r_il6 (q := 128) C dX9_put_126 rfl ?_
                    refine r_ifeq_t (q := 135) C (by decide) (by omega) dX9_put_128 (by decide) ?_
                    refine r_iconst (q := 136) C dX9_put_135 rfl ?_
                    exact r_iret C hr dX9_put_136 (by decide) (by decide) ⟨_, rfl, rfl, by rw [hs, if_neg (by rw [hb2]; omega)], by rw [hs]; unfold bxM putF; rw [o_up_ne (by omega), o_up_ne (by omega), o_up_ne (by omega), o_up_ne (by omega), o_up_ne (by omega), o_upF, o_upF, o_up_ne (by omega)], fun x hx => by rw [o_up_ne (by omega), o_up_ne (by omega)]⟩
                  · refine r_iconst (q := 101) C dX9_put_100 rfl ?_
                    refine r_goto (q := 105) C dX9_put_101 (by decide) ?_
                    refine r_is6 (q := 107) C dX9_put_105 rfl (by decide) ?_
                    refine r_al0 (q := 108) C dX9_put_107 rfl ?_
                    refine r_getR (q := 111) C f_X9_61 dX9_put_108 rfl rfl (by assumption) (by assumption) (by omega) ?_
                    refine r_il5 (q := 113) C dX9_put_111 rfl ?_
                    refine r_il3 (q := 114) C dX9_put_113 rfl ?_
                    refine r_iconst (q := 115) C dX9_put_114 rfl ?_
                    refine r_iadd (q := 116) C dX9_put_115 rfl ?_
                    refine r_iast (q := 117) C ((8 * zN + pN)) dX9_put_116 rfl (by assumption) (by omega) (by omega) (by omega) (by decide) ?_
                    refine r_al0 (q := 118) C dX9_put_117 rfl ?_
                    refine r_getR (q := 121) C f_X9_64 dX9_put_118 rfl rfl (by assumption) (by assumption) (by omega) ?_
                    refine r_il5 (q := 123) C dX9_put_121 rfl ?_
                    refine r_il4 (q := 125) C dX9_put_123 rfl ?_
                    refine r_iast (q := 126) C ((8 * zN + pN)) dX9_put_125 rfl (by assumption) (by omega) (by omega) (by omega) (by decide) ?_
                    refine r_il6 (q := 128) C dX9_put_126 rfl ?_
                    refine r_ifeq_f (q := 135) (q2 := 131) C (by decide) (by omega) dX9_put_128 (by decide) rfl ?_
                    refine r_iconst (q := 132) C dX9_put_131 rfl ?_
                    refine r_goto (q := 136) C dX9_put_132 (by decide) ?_
                    exact r_iret C hr dX9_put_136 (by decide) (by decide) ⟨_, rfl, rfl, by rw [hs, if_pos (by rw [hb2]; omega)], by rw [hs]; unfold bxM putF; rw [o_up_ne (by omega), o_up_ne (by omega), o_up_ne (by omega), o_up_ne (by omega), o_up_ne (by omega), o_upF, o_upF, o_up_ne (by omega)], fun x hx => by rw [o_up_ne (by omega), o_up_ne (by omega)]⟩
                · refine r_ifne_f (q := 82) (q2 := 79) C (by decide) (by omega) dX9_put_76 (by decide) rfl ?_
                  refine r_bipush (q := 81) C dX9_put_79 (by decide) rfl ?_
                  exact r_iret C hr dX9_put_81 (by decide) (by decide) ⟨_, rfl, rfl, by rw [hs, if_pos (by unfold noTkG; rw [hb0]; omega)], by rw [hs, if_pos (by unfold noTkG; rw [hb0]; omega)], fun _ _ => rfl⟩
        · refine r_il4 (q := 41) C dX9_put_39 rfl ?_
          refine r_ifge (q := 79) (q2 := 44) C (by omega) dX9_put_41 (by decide) rfl (fun br41 => ?_) (fun br41 => ?_)
          · refine r_bipush (q := 81) C dX9_put_79 (by decide) rfl ?_
            exact r_iret C hr dX9_put_81 (by decide) (by decide) ⟨_, rfl, rfl, by rw [hs, if_pos (by unfold noTkG; rw [hb0]; omega)], by rw [hs, if_pos (by unfold noTkG; rw [hb0]; omega)], fun _ _ => rfl⟩
          · refine r_al0 (q := 45) C dX9_put_44 rfl ?_
            refine r_getR (q := 48) C f_X9_55 dX9_put_45 rfl rfl (by assumption) (by assumption) (by omega) ?_
            refine r_il1 (q := 49) C dX9_put_48 rfl ?_
            refine r_iald (q := 50) C (zN) dX9_put_49 rfl (by assumption) (by omega) (by omega) (by omega) (by decide) ?_
            refine r_iconst (q := 51) C dX9_put_50 rfl ?_
            refine r_icne (q := 59) (q2 := 54) C (by omega) (by omega) dX9_put_51 (by decide) rfl (fun br51 => ?_) (fun br51 => ?_)
            · refine r_al0 (q := 60) C dX9_put_59 rfl ?_
              refine r_getR (q := 63) C f_X9_55 dX9_put_60 rfl rfl (by assumption) (by assumption) (by omega) ?_
              refine r_il1 (q := 64) C dX9_put_63 rfl ?_
              refine r_iald (q := 65) C (zN) dX9_put_64 rfl (by assumption) (by omega) (by omega) (by omega) (by decide) ?_
              refine r_iconst (q := 66) C dX9_put_65 rfl ?_
              refine r_icne (q := 82) (q2 := 69) C (by omega) (by omega) dX9_put_66 (by decide) rfl (fun br66 => ?_) (fun br66 => ?_)
              · have hnt : ¬ noTkG ((bxM σ mC).1 zN) u := by
                  unfold noTkG
                  rw [hb0]
                  omega
                rw [if_neg hnt] at hs
                refine r_bipush (q := 84) C dX9_put_82 (by decide) rfl ?_
                refine r_il1 (q := 85) C dX9_put_84 rfl ?_
                refine r_imul (q := 86) C dX9_put_85 rfl ?_
                refine r_il2 (q := 87) C dX9_put_86 rfl ?_
                refine r_iadd (q := 88) C dX9_put_87 rfl ?_
                refine r_is5 (q := 90) C dX9_put_88 rfl (by decide) ?_
                refine r_al0 (q := 91) C dX9_put_90 rfl ?_
                refine r_getR (q := 94) C f_X9_61 dX9_put_91 rfl rfl (by assumption) (by assumption) (by omega) ?_
                refine r_il5 (q := 96) C dX9_put_94 rfl ?_
                refine r_iald (q := 97) C ((8 * zN + pN)) dX9_put_96 rfl (by assumption) (by omega) (by omega) (by omega) (by decide) ?_
                refine r_ifne (q := 104) (q2 := 100) C (by omega) dX9_put_97 (by decide) rfl (fun br97 => ?_) (fun br97 => ?_)
                · refine r_iconst (q := 105) C dX9_put_104 rfl ?_
                  refine r_is6 (q := 107) C dX9_put_105 rfl (by decide) ?_
                  refine r_al0 (q := 108) C dX9_put_107 rfl ?_
                  refine r_getR (q := 111) C f_X9_61 dX9_put_108 rfl rfl (by assumption) (by assumption) (by omega) ?_
                  refine r_il5 (q := 113) C dX9_put_111 rfl ?_
                  refine r_il3 (q := 114) C dX9_put_113 rfl ?_
                  refine r_iconst (q := 115) C dX9_put_114 rfl ?_
                  refine r_iadd (q := 116) C dX9_put_115 rfl ?_
                  refine r_iast (q := 117) C ((8 * zN + pN)) dX9_put_116 rfl (by assumption) (by omega) (by omega) (by omega) (by decide) ?_
                  refine r_al0 (q := 118) C dX9_put_117 rfl ?_
                  refine r_getR (q := 121) C f_X9_64 dX9_put_118 rfl rfl (by assumption) (by assumption) (by omega) ?_
                  refine r_il5 (q := 123) C dX9_put_121 rfl ?_
                  refine r_il4 (q := 125) C dX9_put_123 rfl ?_
                  refine r_iast (q := 126) C ((8 * zN + pN)) dX9_put_125 rfl (by assumption) (by omega) (by omega) (by omega) (by decide) ?_
                  refine r_il6 (q := 128) C dX9_put_126 rfl ?_
                  refine r_ifeq_t (q := 135) C (by decide) (by omega) dX9_put_128 (by decide) ?_
                  refine r_iconst (q := 136) C dX9_put_135 rfl ?_
                  exact r_iret C hr dX9_put_136 (by decide) (by decide) ⟨_, rfl, rfl, by rw [hs, if_neg (by rw [hb2]; omega)], by rw [hs]; unfold bxM putF; rw [o_up_ne (by omega), o_up_ne (by omega), o_up_ne (by omega), o_up_ne (by omega), o_up_ne (by omega), o_upF, o_upF, o_up_ne (by omega)], fun x hx => by rw [o_up_ne (by omega), o_up_ne (by omega)]⟩
                · refine r_iconst (q := 101) C dX9_put_100 rfl ?_
                  refine r_goto (q := 105) C dX9_put_101 (by decide) ?_
                  refine r_is6 (q := 107) C dX9_put_105 rfl (by decide) ?_
                  refine r_al0 (q := 108) C dX9_put_107 rfl ?_
                  refine r_getR (q := 111) C f_X9_61 dX9_put_108 rfl rfl (by assumption) (by assumption) (by omega) ?_
                  refine r_il5 (q := 113) C dX9_put_111 rfl ?_
                  refine r_il3 (q := 114) C dX9_put_113 rfl ?_
                  refine r_iconst (q := 115) C dX9_put_114 rfl ?_
                  refine r_iadd (q := 116) C dX9_put_115 rfl ?_
                  refine r_iast (q := 117) C ((8 * zN + pN)) dX9_put_116 rfl (by assumption) (by omega) (by omega) (by omega) (by decide) ?_
                  refine r_al0 (q := 118) C dX9_put_117 rfl ?_
                  refine r_getR (q := 121) C f_X9_64 dX9_put_118 rfl rfl (by assumption) (by assumption) (by omega) ?_
                  refine r_il5 (q := 123) C dX9_put_121 rfl ?_
                  refine r_il4 (q := 125) C dX9_put_123 rfl ?_
                  refine r_iast (q := 126) C ((8 * zN + pN)) dX9_put_125 rfl (by assumption) (by omega) (by omega) (by omega) (by decide) ?_
                  refine r_il6 (q := 128) C dX9_put_126 rfl ?_
                  refine r_ifeq_f (q := 135) (q2 := 131) C (by decide) (by omega) dX9_put_128 (by decide) rfl ?_
                  refine r_iconst (q := 132) C dX9_put_131 rfl ?_
                  refine r_goto (q := 136) C dX9_put_132 (by decide) ?_
                  exact r_iret C hr dX9_put_136 (by decide) (by decide) ⟨_, rfl, rfl, by rw [hs, if_pos (by rw [hb2]; omega)], by rw [hs]; unfold bxM putF; rw [o_up_ne (by omega), o_up_ne (by omega), o_up_ne (by omega), o_up_ne (by omega), o_up_ne (by omega), o_upF, o_upF, o_up_ne (by omega)], fun x hx => by rw [o_up_ne (by omega), o_up_ne (by omega)]⟩
              · refine r_il4 (q := 71) C dX9_put_69 rfl ?_
                refine r_iconst (q := 72) C dX9_put_71 rfl ?_
                refine r_iconst (q := 73) C dX9_put_72 rfl ?_
                refine r_callSb (q := 76) C (c_X9_in hu (by omega) (by omega)) m_X9_108 dX9_put_73 rfl rfl (by decide) (by decide) (Nat.le_of_ble_eq_true rfl) (fun br73 => ?_) (fun br73 => ?_)
                · refine r_ifne_t (q := 82) C (by decide) (by omega) dX9_put_76 (by decide) ?_
                  have hnt : ¬ noTkG ((bxM σ mC).1 zN) u := by
                    unfold noTkG
                    rw [hb0]
                    omega
                  rw [if_neg hnt] at hs
                  refine r_bipush (q := 84) C dX9_put_82 (by decide) rfl ?_
                  refine r_il1 (q := 85) C dX9_put_84 rfl ?_
                  refine r_imul (q := 86) C dX9_put_85 rfl ?_
                  refine r_il2 (q := 87) C dX9_put_86 rfl ?_
                  refine r_iadd (q := 88) C dX9_put_87 rfl ?_
                  refine r_is5 (q := 90) C dX9_put_88 rfl (by decide) ?_
                  refine r_al0 (q := 91) C dX9_put_90 rfl ?_
                  refine r_getR (q := 94) C f_X9_61 dX9_put_91 rfl rfl (by assumption) (by assumption) (by omega) ?_
                  refine r_il5 (q := 96) C dX9_put_94 rfl ?_
                  refine r_iald (q := 97) C ((8 * zN + pN)) dX9_put_96 rfl (by assumption) (by omega) (by omega) (by omega) (by decide) ?_
                  refine r_ifne (q := 104) (q2 := 100) C (by omega) dX9_put_97 (by decide) rfl (fun br97 => ?_) (fun br97 => ?_)
                  · refine r_iconst (q := 105) C dX9_put_104 rfl ?_
                    refine r_is6 (q := 107) C dX9_put_105 rfl (by decide) ?_
                    refine r_al0 (q := 108) C dX9_put_107 rfl ?_
                    refine r_getR (q := 111) C f_X9_61 dX9_put_108 rfl rfl (by assumption) (by assumption) (by omega) ?_
                    refine r_il5 (q := 113) C dX9_put_111 rfl ?_
                    refine r_il3 (q := 114) C dX9_put_113 rfl ?_
                    refine r_iconst (q := 115) C dX9_put_114 rfl ?_
                    refine r_iadd (q := 116) C dX9_put_115 rfl ?_
                    refine r_iast (q := 117) C ((8 * zN + pN)) dX9_put_116 rfl (by assumption) (by omega) (by omega) (by omega) (by decide) ?_
                    refine r_al0 (q := 118) C dX9_put_117 rfl ?_
                    refine r_getR (q := 121) C f_X9_64 dX9_put_118 rfl rfl (by assumption) (by assumption) (by omega) ?_
                    refine r_il5 (q := 123) C dX9_put_121 rfl ?_
                    refine r_il4 (q := 125) C dX9_put_123 rfl ?_
                    refine r_iast (q := 126) C ((8 * zN + pN)) dX9_put_125 rfl (by assumption) (by omega) (by omega) (by omega) (by decide) ?_
                    refine r_il6 (q := 128) C dX9_put_126 rfl ?_
                    refine r_ifeq_t (q := 135) C (by decide) (by omega) dX9_put_128 (by decide) ?_
                    refine r_iconst (q := 136) C dX9_put_135 rfl ?_
                    exact r_iret C hr dX9_put_136 (by decide) (by decide) ⟨_, rfl, rfl, by rw [hs, if_neg (by rw [hb2]; omega)], by rw [hs]; unfold bxM putF; rw [o_up_ne (by omega), o_up_ne (by omega), o_up_ne (by omega), o_up_ne (by omega), o_up_ne (by omega), o_upF, o_upF, o_up_ne (by omega)], fun x hx => by rw [o_up_ne (by omega), o_up_ne (by omega)]⟩
                  · refine r_iconst (q := 101) C dX9_put_100 rfl ?_
                    refine r_goto (q := 105) C dX9_put_101 (by decide) ?_
                    refine r_is6 (q := 107) C dX9_put_105 rfl (by decide) ?_
                    refine r_al0 (q := 108) C dX9_put_107 rfl ?_
                    refine r_getR (q := 111) C f_X9_61 dX9_put_108 rfl rfl (by assumption) (by assumption) (by omega) ?_
                    refine r_il5 (q := 113) C dX9_put_111 rfl ?_
                    refine r_il3 (q := 114) C dX9_put_113 rfl ?_
                    refine r_iconst (q := 115) C dX9_put_114 rfl ?_
                    refine r_iadd (q := 116) C dX9_put_115 rfl ?_
                    refine r_iast (q := 117) C ((8 * zN + pN)) dX9_put_116 rfl (by assumption) (by omega) (by omega) (by omega) (by decide) ?_
                    refine r_al0 (q := 118) C dX9_put_117 rfl ?_
                    refine r_getR (q := 121) C f_X9_64 dX9_put_118 rfl rfl (by assumption) (by assumption) (by omega) ?_
                    refine r_il5 (q := 123) C dX9_put_121 rfl ?_
                    refine r_il4 (q := 125) C dX9_put_123 rfl ?_
                    refine r_iast (q := 126) C ((8 * zN + pN)) dX9_put_125 rfl (by assumption) (by omega) (by omega) (by omega) (by decide) ?_
                    refine r_il6 (q := 128) C dX9_put_126 rfl ?_
                    refine r_ifeq_f (q := 135) (q2 := 131) C (by decide) (by omega) dX9_put_128 (by decide) rfl ?_
                    refine r_iconst (q := 132) C dX9_put_131 rfl ?_
                    refine r_goto (q := 136) C dX9_put_132 (by decide) ?_
                    exact r_iret C hr dX9_put_136 (by decide) (by decide) ⟨_, rfl, rfl, by rw [hs, if_pos (by rw [hb2]; omega)], by rw [hs]; unfold bxM putF; rw [o_up_ne (by omega), o_up_ne (by omega), o_up_ne (by omega), o_up_ne (by omega), o_up_ne (by omega), o_upF, o_upF, o_up_ne (by omega)], fun x hx => by rw [o_up_ne (by omega), o_up_ne (by omega)]⟩
                · refine r_ifne_f (q := 82) (q2 := 79) C (by decide) (by omega) dX9_put_76 (by decide) rfl ?_
                  refine r_bipush (q := 81) C dX9_put_79 (by decide) rfl ?_
                  exact r_iret C hr dX9_put_81 (by decide) (by decide) ⟨_, rfl, rfl, by rw [hs, if_pos (by unfold noTkG; rw [hb0]; omega)], by rw [hs, if_pos (by unfold noTkG; rw [hb0]; omega)], fun _ _ => rfl⟩
            · refine r_il4 (q := 56) C dX9_put_54 rfl ?_
              refine r_iflt (q := 79) (q2 := 59) C (by omega) dX9_put_56 (by decide) rfl (fun br56 => ?_) (fun br56 => ?_)
              · refine r_bipush (q := 81) C dX9_put_79 (by decide) rfl ?_
                exact r_iret C hr dX9_put_81 (by decide) (by decide) ⟨_, rfl, rfl, by rw [hs, if_pos (by unfold noTkG; rw [hb0]; omega)], by rw [hs, if_pos (by unfold noTkG; rw [hb0]; omega)], fun _ _ => rfl⟩
              · refine r_al0 (q := 60) C dX9_put_59 rfl ?_
                refine r_getR (q := 63) C f_X9_55 dX9_put_60 rfl rfl (by assumption) (by assumption) (by omega) ?_
                refine r_il1 (q := 64) C dX9_put_63 rfl ?_
                refine r_iald (q := 65) C (zN) dX9_put_64 rfl (by assumption) (by omega) (by omega) (by omega) (by decide) ?_
                refine r_iconst (q := 66) C dX9_put_65 rfl ?_
                refine r_icne (q := 82) (q2 := 69) C (by omega) (by omega) dX9_put_66 (by decide) rfl (fun br66 => ?_) (fun br66 => ?_)
                · have hnt : ¬ noTkG ((bxM σ mC).1 zN) u := by
                    unfold noTkG
                    rw [hb0]
                    omega
                  rw [if_neg hnt] at hs
                  refine r_bipush (q := 84) C dX9_put_82 (by decide) rfl ?_
                  refine r_il1 (q := 85) C dX9_put_84 rfl ?_
                  refine r_imul (q := 86) C dX9_put_85 rfl ?_
                  refine r_il2 (q := 87) C dX9_put_86 rfl ?_
                  refine r_iadd (q := 88) C dX9_put_87 rfl ?_
                  refine r_is5 (q := 90) C dX9_put_88 rfl (by decide) ?_
                  refine r_al0 (q := 91) C dX9_put_90 rfl ?_
                  refine r_getR (q := 94) C f_X9_61 dX9_put_91 rfl rfl (by assumption) (by assumption) (by omega) ?_
                  refine r_il5 (q := 96) C dX9_put_94 rfl ?_
                  refine r_iald (q := 97) C ((8 * zN + pN)) dX9_put_96 rfl (by assumption) (by omega) (by omega) (by omega) (by decide) ?_
                  refine r_ifne (q := 104) (q2 := 100) C (by omega) dX9_put_97 (by decide) rfl (fun br97 => ?_) (fun br97 => ?_)
                  · refine r_iconst (q := 105) C dX9_put_104 rfl ?_
                    refine r_is6 (q := 107) C dX9_put_105 rfl (by decide) ?_
                    refine r_al0 (q := 108) C dX9_put_107 rfl ?_
                    refine r_getR (q := 111) C f_X9_61 dX9_put_108 rfl rfl (by assumption) (by assumption) (by omega) ?_
                    refine r_il5 (q := 113) C dX9_put_111 rfl ?_
                    refine r_il3 (q := 114) C dX9_put_113 rfl ?_
                    refine r_iconst (q := 115) C dX9_put_114 rfl ?_
                    refine r_iadd (q := 116) C dX9_put_115 rfl ?_
                    refine r_iast (q := 117) C ((8 * zN + pN)) dX9_put_116 rfl (by assumption) (by omega) (by omega) (by omega) (by decide) ?_
                    refine r_al0 (q := 118) C dX9_put_117 rfl ?_
                    refine r_getR (q := 121) C f_X9_64 dX9_put_118 rfl rfl (by assumption) (by assumption) (by omega) ?_
                    refine r_il5 (q := 123) C dX9_put_121 rfl ?_
                    refine r_il4 (q := 125) C dX9_put_123 rfl ?_
                    refine r_iast (q := 126) C ((8 * zN + pN)) dX9_put_125 rfl (by assumption) (by omega) (by omega) (by omega) (by decide) ?_
                    refine r_il6 (q := 128) C dX9_put_126 rfl ?_
                    refine r_ifeq_t (q := 135) C (by decide) (by omega) dX9_put_128 (by decide) ?_
                    refine r_iconst (q := 136) C dX9_put_135 rfl ?_
                    exact r_iret C hr dX9_put_136 (by decide) (by decide) ⟨_, rfl, rfl, by rw [hs, if_neg (by rw [hb2]; omega)], by rw [hs]; unfold bxM putF; rw [o_up_ne (by omega), o_up_ne (by omega), o_up_ne (by omega), o_up_ne (by omega), o_up_ne (by omega), o_upF, o_upF, o_up_ne (by omega)], fun x hx => by rw [o_up_ne (by omega), o_up_ne (by omega)]⟩
                  · refine r_iconst (q := 101) C dX9_put_100 rfl ?_
                    refine r_goto (q := 105) C dX9_put_101 (by decide) ?_
                    refine r_is6 (q := 107) C dX9_put_105 rfl (by decide) ?_
                    refine r_al0 (q := 108) C dX9_put_107 rfl ?_
                    refine r_getR (q := 111) C f_X9_61 dX9_put_108 rfl rfl (by assumption) (by assumption) (by omega) ?_
                    refine r_il5 (q := 113) C dX9_put_111 rfl ?_
                    refine r_il3 (q := 114) C dX9_put_113 rfl ?_
                    refine r_iconst (q := 115) C dX9_put_114 rfl ?_
                    refine r_iadd (q := 116) C dX9_put_115 rfl ?_
                    refine r_iast (q := 117) C ((8 * zN + pN)) dX9_put_116 rfl (by assumption) (by omega) (by omega) (by omega) (by decide) ?_
                    refine r_al0 (q := 118) C dX9_put_117 rfl ?_
                    refine r_getR (q := 121) C f_X9_64 dX9_put_118 rfl rfl (by assumption) (by assumption) (by omega) ?_
                    refine r_il5 (q := 123) C dX9_put_121 rfl ?_
                    refine r_il4 (q := 125) C dX9_put_123 rfl ?_
                    refine r_iast (q := 126) C ((8 * zN + pN)) dX9_put_125 rfl (by assumption) (by omega) (by omega) (by omega) (by decide) ?_
                    refine r_il6 (q := 128) C dX9_put_126 rfl ?_
                    refine r_ifeq_f (q := 135) (q2 := 131) C (by decide) (by omega) dX9_put_128 (by decide) rfl ?_
                    refine r_iconst (q := 132) C dX9_put_131 rfl ?_
                    refine r_goto (q := 136) C dX9_put_132 (by decide) ?_
                    exact r_iret C hr dX9_put_136 (by decide) (by decide) ⟨_, rfl, rfl, by rw [hs, if_pos (by rw [hb2]; omega)], by rw [hs]; unfold bxM putF; rw [o_up_ne (by omega), o_up_ne (by omega), o_up_ne (by omega), o_up_ne (by omega), o_up_ne (by omega), o_upF, o_upF, o_up_ne (by omega)], fun x hx => by rw [o_up_ne (by omega), o_up_ne (by omega)]⟩
                · refine r_il4 (q := 71) C dX9_put_69 rfl ?_
                  refine r_iconst (q := 72) C dX9_put_71 rfl ?_
                  refine r_iconst (q := 73) C dX9_put_72 rfl ?_
                  refine r_callSb (q := 76) C (c_X9_in hu (by omega) (by omega)) m_X9_108 dX9_put_73 rfl rfl (by decide) (by decide) (Nat.le_of_ble_eq_true rfl) (fun br73 => ?_) (fun br73 => ?_)
                  · refine r_ifne_t (q := 82) C (by decide) (by omega) dX9_put_76 (by decide) ?_
                    have hnt : ¬ noTkG ((bxM σ mC).1 zN) u := by
                      unfold noTkG
                      rw [hb0]
                      omega
                    rw [if_neg hnt] at hs
                    refine r_bipush (q := 84) C dX9_put_82 (by decide) rfl ?_
                    refine r_il1 (q := 85) C dX9_put_84 rfl ?_
                    refine r_imul (q := 86) C dX9_put_85 rfl ?_
                    refine r_il2 (q := 87) C dX9_put_86 rfl ?_
                    refine r_iadd (q := 88) C dX9_put_87 rfl ?_
                    refine r_is5 (q := 90) C dX9_put_88 rfl (by decide) ?_
                    refine r_al0 (q := 91) C dX9_put_90 rfl ?_
                    refine r_getR (q := 94) C f_X9_61 dX9_put_91 rfl rfl (by assumption) (by assumption) (by omega) ?_
                    refine r_il5 (q := 96) C dX9_put_94 rfl ?_
                    refine r_iald (q := 97) C ((8 * zN + pN)) dX9_put_96 rfl (by assumption) (by omega) (by omega) (by omega) (by decide) ?_
                    refine r_ifne (q := 104) (q2 := 100) C (by omega) dX9_put_97 (by decide) rfl (fun br97 => ?_) (fun br97 => ?_)
                    · refine r_iconst (q := 105) C dX9_put_104 rfl ?_
                      refine r_is6 (q := 107) C dX9_put_105 rfl (by decide) ?_
                      refine r_al0 (q := 108) C dX9_put_107 rfl ?_
                      refine r_getR (q := 111) C f_X9_61 dX9_put_108 rfl rfl (by assumption) (by assumption) (by omega) ?_
                      refine r_il5 (q := 113) C dX9_put_111 rfl ?_
                      refine r_il3 (q := 114) C dX9_put_113 rfl ?_
                      refine r_iconst (q := 115) C dX9_put_114 rfl ?_
                      refine r_iadd (q := 116) C dX9_put_115 rfl ?_
                      refine r_iast (q := 117) C ((8 * zN + pN)) dX9_put_116 rfl (by assumption) (by omega) (by omega) (by omega) (by decide) ?_
                      refine r_al0 (q := 118) C dX9_put_117 rfl ?_
                      refine r_getR (q := 121) C f_X9_64 dX9_put_118 rfl rfl (by assumption) (by assumption) (by omega) ?_
                      refine r_il5 (q := 123) C dX9_put_121 rfl ?_
                      refine r_il4 (q := 125) C dX9_put_123 rfl ?_
                      refine r_iast (q := 126) C ((8 * zN + pN)) dX9_put_125 rfl (by assumption) (by omega) (by omega) (by omega) (by decide) ?_
                      refine r_il6 (q := 128) C dX9_put_126 rfl ?_
                      refine r_ifeq_t (q := 135) C (by decide) (by omega) dX9_put_128 (by decide) ?_
                      refine r_iconst (q := 136) C dX9_put_135 rfl ?_
                      exact r_iret C hr dX9_put_136 (by decide) (by decide) ⟨_, rfl, rfl, by rw [hs, if_neg (by rw [hb2]; omega)], by rw [hs]; unfold bxM putF; rw [o_up_ne (by omega), o_up_ne (by omega), o_up_ne (by omega), o_up_ne (by omega), o_up_ne (by omega), o_upF, o_upF, o_up_ne (by omega)], fun x hx => by rw [o_up_ne (by omega), o_up_ne (by omega)]⟩
                    · refine r_iconst (q := 101) C dX9_put_100 rfl ?_
                      refine r_goto (q := 105) C dX9_put_101 (by decide) ?_
                      refine r_is6 (q := 107) C dX9_put_105 rfl (by decide) ?_
                      refine r_al0 (q := 108) C dX9_put_107 rfl ?_
                      refine r_getR (q := 111) C f_X9_61 dX9_put_108 rfl rfl (by assumption) (by assumption) (by omega) ?_
                      refine r_il5 (q := 113) C dX9_put_111 rfl ?_
                      refine r_il3 (q := 114) C dX9_put_113 rfl ?_
                      refine r_iconst (q := 115) C dX9_put_114 rfl ?_
                      refine r_iadd (q := 116) C dX9_put_115 rfl ?_
                      refine r_iast (q := 117) C ((8 * zN + pN)) dX9_put_116 rfl (by assumption) (by omega) (by omega) (by omega) (by decide) ?_
                      refine r_al0 (q := 118) C dX9_put_117 rfl ?_
                      refine r_getR (q := 121) C f_X9_64 dX9_put_118 rfl rfl (by assumption) (by assumption) (by omega) ?_
                      refine r_il5 (q := 123) C dX9_put_121 rfl ?_
                      refine r_il4 (q := 125) C dX9_put_123 rfl ?_
                      refine r_iast (q := 126) C ((8 * zN + pN)) dX9_put_125 rfl (by assumption) (by omega) (by omega) (by omega) (by decide) ?_
                      refine r_il6 (q := 128) C dX9_put_126 rfl ?_
                      refine r_ifeq_f (q := 135) (q2 := 131) C (by decide) (by omega) dX9_put_128 (by decide) rfl ?_
                      refine r_iconst (q := 132) C dX9_put_131 rfl ?_
                      refine r_goto (q := 136) C dX9_put_132 (by decide) ?_
                      exact r_iret C hr dX9_put_136 (by decide) (by decide) ⟨_, rfl, rfl, by rw [hs, if_pos (by rw [hb2]; omega)], by rw [hs]; unfold bxM putF; rw [o_up_ne (by omega), o_up_ne (by omega), o_up_ne (by omega), o_up_ne (by omega), o_up_ne (by omega), o_upF, o_upF, o_up_ne (by omega)], fun x hx => by rw [o_up_ne (by omega), o_up_ne (by omega)]⟩
                  · refine r_ifne_f (q := 82) (q2 := 79) C (by decide) (by omega) dX9_put_76 (by decide) rfl ?_
                    refine r_bipush (q := 81) C dX9_put_79 (by decide) rfl ?_
                    exact r_iret C hr dX9_put_81 (by decide) (by decide) ⟨_, rfl, rfl, by rw [hs, if_pos (by unfold noTkG; rw [hb0]; omega)], by rw [hs, if_pos (by unfold noTkG; rw [hb0]; omega)], fun _ _ => rfl⟩
      · refine r_ifne_f (q := 29) (q2 := 27) C (by decide) (by omega) dX9_put_24 (by decide) rfl ?_
        refine r_iconst (q := 28) C dX9_put_27 rfl ?_
        exact r_iret C hr dX9_put_28 (by decide) (by decide) ⟨_, rfl, rfl, by rw [fPut, if_neg (fun hc => br21 hc.2.2)], by rw [fPut, if_neg (fun hc => br21 hc.2.2)], fun _ _ => rfl⟩
    · refine r_ifeq_t (q := 27) C (by decide) (by omega) dX9_put_14 (by decide) ?_
      refine r_iconst (q := 28) C dX9_put_27 rfl ?_
      exact r_iret C hr dX9_put_28 (by decide) (by decide) ⟨_, rfl, rfl, by rw [fPut, if_neg (fun hc => br11 hc.2.1)], by rw [fPut, if_neg (fun hc => br11 hc.2.1)], fun _ _ => rfl⟩
  · refine r_ifeq_t (q := 27) C (by decide) (by omega) dX9_put_6 (by decide) ?_
    refine r_iconst (q := 28) C dX9_put_27 rfl ?_
    exact r_iret C hr dX9_put_28 (by decide) (by decide) ⟨_, rfl, rfl, by rw [fPut, if_neg (fun hc => br3 hc.1)], by rw [fPut, if_neg (fun hc => br3 hc.1)], fun _ _ => rfl⟩
set_option maxRecDepth 20000 in
set_option maxHeartbeats 8000000 in
theorem c_X9_look {T : oT} {σ : oM} {mC : Nat} (hM : oMm T mC) (hK : oBk (bxM σ mC)) {z v w : Int} (hz : o_r z) (hv : o_r v) (hw : o_r w) : MS yX9_look cX9_look 5 (some FieldType.int) 3 0 0 64 [og mC, oi z, oi v, oi w] T σ (oP1 (oi (fLook (bxM σ mC) z v w)) T σ) := by
  have hMc := hM
  obtain ⟨hM0, hMr0, hMr1, hMr2, hMr3, hMr8, hMr9, hMr10, hMr11, hMr13, hMr14, hMr15, hMr16, hMr17, hMr18, hMr19, hMr20, hMk1, hMk2, hMk3, hMk4, hMk5, hMk6, hMk7, hMk8, hMk9, hMk10, hMk11, hMk12, hMk13, hMk14, hMk15, hMk16, hMT⟩ := hMc
  refine o_met (by decide +kernel) (Nat.le_of_ble_eq_true rfl) (fun p l ee s m args below meth c G b C hr hn => ?_)
  have C : oCx p s m args meth c G b RX9 cX9_look 5 := C
  show oW p l ee ({ frames := 3, cells := 0, slots := 0, locals := 64 } : Room) s m args below meth c G b 5 0 0 (MQ below (o_Qc G b (oP1 (oi (fLook (bxM σ mC) z v w)) T σ)) args s 0 0 (fun q => b ≤ q)) T σ 0 [some (og mC), some (oi z), some (oi v), some (oi w), none] []
  refine r_al0 (q := 1) C dX9_look_0 rfl ?_
  refine r_il1 (q := 2) C dX9_look_1 rfl ?_
  refine r_il2 (q := 3) C dX9_look_2 rfl ?_
  refine r_callVb (q := 6) C (c_X9_isPlace hM hK (by omega) (by omega)) m_X9_222 (by assumption) (by omega) dX9_look_3 rfl rfl (by decide) (by decide) (Nat.le_of_ble_eq_true rfl) (fun br3 => ?_) (fun br3 => ?_)
  · refine r_ifeq_f (q := 18) (q2 := 9) C (by decide) (by omega) dX9_look_6 (by decide) rfl ?_
    have hbz := br3.1
    obtain ⟨zN, rfl⟩ : ∃ zN : Nat, z = (zN : Int) := ⟨z.toNat, by omega⟩
    have hz3 : zN < 3 := by omega
    have hkz : (0 ≤ σ (mC + 10) zN ∧ σ (mC + 10) zN ≤ 3) ∧ (0 ≤ σ (mC + 11) zN ∧ σ (mC + 11) zN ≤ 8) ∧ ∀ px, px < 8 → (0 ≤ σ (mC + 12) (8 * zN + px) ∧ σ (mC + 12) (8 * zN + px) ≤ 6) ∧ (-1 ≤ σ (mC + 13) (8 * zN + px) ∧ σ (mC + 13) (8 * zN + px) ≤ 5) := hK zN hz3
    obtain ⟨pN, rfl⟩ : ∃ pN : Nat, v = (pN : Int) := ⟨v.toNat, by have := br3.2; omega⟩
    have hp8 : pN < 8 := by
      have q1 := br3.2.2
      rw [Int.toNat_natCast] at q1
      have q3 : (bxM σ mC).2.1 zN = σ (mC + 11) zN := rfl
      omega
    have hkp := hkz.2.2 pN hp8
    refine r_il3 (q := 10) C dX9_look_9 rfl ?_
    refine r_iconst (q := 11) C dX9_look_10 rfl ?_
    refine r_iconst (q := 12) C dX9_look_11 rfl ?_
    refine r_callSb (q := 15) C (c_X9_in hw (by omega) (by omega)) m_X9_108 dX9_look_12 rfl rfl (by decide) (by decide) (Nat.le_of_ble_eq_true rfl) (fun br12 => ?_) (fun br12 => ?_)
    · refine r_ifne_t (q := 20) C (by decide) (by omega) dX9_look_15 (by decide) ?_
      have hs := fLook.eq_1 (bxM σ mC) (zN : Int) (pN : Int) w
      rw [if_pos ⟨br3, br12⟩] at hs
      simp only [Int.toNat_natCast] at hs
      have hb2 : (bxM σ mC).2.2.1 (8 * zN + pN) = σ (mC + 12) (8 * zN + pN) := rfl
      have hb3 : (bxM σ mC).2.2.2 (8 * zN + pN) = σ (mC + 13) (8 * zN + pN) := rfl
      rw [hb2, hb3] at hs
      refine r_bipush (q := 22) C dX9_look_20 (by decide) rfl ?_
      refine r_il1 (q := 23) C dX9_look_22 rfl ?_
      refine r_imul (q := 24) C dX9_look_23 rfl ?_
      refine r_il2 (q := 25) C dX9_look_24 rfl ?_
      refine r_iadd (q := 26) C dX9_look_25 rfl ?_
      refine r_is4 (q := 28) C dX9_look_26 rfl (by decide) ?_
      refine r_al0 (q := 29) C dX9_look_28 rfl ?_
      refine r_getR (q := 32) C f_X9_61 dX9_look_29 rfl rfl (by assumption) (by assumption) (by omega) ?_
      refine r_il4 (q := 34) C dX9_look_32 rfl ?_
      refine r_iald (q := 35) C ((8 * zN + pN)) dX9_look_34 rfl (by assumption) (by omega) (by omega) (by omega) (by decide) ?_
      refine r_ifne (q := 43) (q2 := 38) C (by omega) dX9_look_35 (by decide) rfl (fun br35 => ?_) (fun br35 => ?_)
      · refine r_il3 (q := 44) C dX9_look_43 rfl ?_
        refine r_ifne (q := 59) (q2 := 47) C (by omega) dX9_look_44 (by decide) rfl (fun br44 => ?_) (fun br44 => ?_)
        · refine r_al0 (q := 60) C dX9_look_59 rfl ?_
          refine r_getR (q := 63) C f_X9_64 dX9_look_60 rfl rfl (by assumption) (by assumption) (by omega) ?_
          refine r_il4 (q := 65) C dX9_look_63 rfl ?_
          refine r_iald (q := 66) C ((8 * zN + pN)) dX9_look_65 rfl (by assumption) (by omega) (by omega) (by omega) (by decide) ?_
          exact r_iret C hr dX9_look_66 (by decide) (by decide) ⟨by rw [hs, if_neg (by omega), if_neg (by omega)], rfl, rfl⟩
        · refine r_al0 (q := 48) C dX9_look_47 rfl ?_
          refine r_getR (q := 51) C f_X9_61 dX9_look_48 rfl rfl (by assumption) (by assumption) (by omega) ?_
          refine r_il4 (q := 53) C dX9_look_51 rfl ?_
          refine r_iald (q := 54) C ((8 * zN + pN)) dX9_look_53 rfl (by assumption) (by omega) (by omega) (by omega) (by decide) ?_
          refine r_iconst (q := 55) C dX9_look_54 rfl ?_
          refine r_isub (q := 56) C dX9_look_55 rfl ?_
          refine r_goto (q := 66) C dX9_look_56 (by decide) ?_
          exact r_iret C hr dX9_look_66 (by decide) (by decide) ⟨by rw [hs, if_neg (by omega), if_pos (by omega)], rfl, rfl⟩
      · refine r_bipush (q := 40) C dX9_look_38 (by decide) rfl ?_
        refine r_goto (q := 66) C dX9_look_40 (by decide) ?_
        exact r_iret C hr dX9_look_66 (by decide) (by decide) ⟨by rw [hs, if_pos (by omega)], rfl, rfl⟩
    · refine r_ifne_f (q := 20) (q2 := 18) C (by decide) (by omega) dX9_look_15 (by decide) rfl ?_
      refine r_iconst (q := 19) C dX9_look_18 rfl ?_
      exact r_iret C hr dX9_look_19 (by decide) (by decide) ⟨by rw [fLook, if_neg (fun hc => br12 hc.2)], rfl, rfl⟩
  · refine r_ifeq_t (q := 18) C (by decide) (by omega) dX9_look_6 (by decide) ?_
    refine r_iconst (q := 19) C dX9_look_18 rfl ?_
    exact r_iret C hr dX9_look_19 (by decide) (by decide) ⟨by rw [fLook, if_neg (fun hc => br3 hc.1)], rfl, rfl⟩
theorem movF_e {f : Nat → Int} {vN zN kx : Nat} (h : kx < 8) : movF f (8 * vN) (8 * zN) kx (8 * zN + kx) = f (8 * zN + kx) := by
  unfold movF
  by_cases hc : 8 * vN ≤ 8 * zN + kx ∧ 8 * zN + kx < 8 * vN + kx
  · exact absurd hc (by omega)
  · rw [if_neg hc]
theorem o_up_sw {σ : oM} {a1x a2x j k : Nat} {v w : Int} (h : a1x ≠ a2x) : o_up (o_up σ a1x j v) a2x k w = o_up (o_up σ a2x k w) a1x j v := by
  funext x y
  unfold o_up
  by_cases h1 : x = a2x ∧ y = k
  · rw [if_pos h1, if_neg (by omega), if_pos h1]
  · rw [if_neg h1, if_neg h1]
theorem o_row_us {σ : oM} {aC bC k : Nat} {f g : Nat → Int} {v : Int} (h : aC ≠ bC) : o_up (o_row (o_row σ aC f) bC g) aC k v = o_row (o_row σ aC (updF f k v)) bC g := by
  funext x
  by_cases h1 : x = aC
  · rw [h1, o_upF, o_row_ne h, o_row_at, o_row_ne h, o_row_at]
  · rw [o_up_ne h1]
    by_cases h2 : x = bC
    · rw [h2, o_row_at, o_row_at]
    · rw [o_row_ne h2, o_row_ne h2, o_row_ne h1, o_row_ne h1]
theorem like_k {bx : oBoxes} {zN vN : Nat} (h : oBk bx) (hz : zN < 3) (hv : vN < 3) : oBk (likeF bx zN vN) := by
  intro ix hi
  obtain ⟨q1, q2, q3⟩ := h ix hi
  obtain ⟨g1, g2, g3⟩ := h zN hz
  unfold likeF updF movF
  dsimp only
  refine ⟨?_, ?_, fun px hp => ⟨?_, ?_⟩⟩
  · split
    · exact g1
    · exact q1
  · split
    · exact g2
    · exact q2
  · split
    · rw [show 8 * ix + px - 8 * vN + 8 * zN = 8 * zN + (8 * ix + px - 8 * vN) by omega]
      exact (g3 _ (by omega)).1
    · exact (q3 px hp).1
  · split
    · rw [show 8 * ix + px - 8 * vN + 8 * zN = 8 * zN + (8 * ix + px - 8 * vN) by omega]
      exact (g3 _ (by omega)).2
    · exact (q3 px hp).2
set_option maxRecDepth 20000 in
set_option maxHeartbeats 8000000 in
theorem c_X9_likeBox {T : oT} {σ : oM} {mC : Nat} (hM : oMm T mC) (hK : oBk (bxM σ mC)) {z v : Int} (hz : o_r z) (hv : o_r v) : MS yX9_likeBox cX9_likeBox 4 (some FieldType.int) 2 0 0 42 [og mC, oi z, oi v] T σ (oPs (fun zx σ2 => zx = (fLike (bxM σ mC) z v).1 ∧ bxM σ2 mC = (fLike (bxM σ mC) z v).2 ∧ ∀ x, (x < mC + 10 ∨ mC + 14 ≤ x) → σ2 x = σ x) T) := by
  have hMc := hM
  obtain ⟨hM0, hMr0, hMr1, hMr2, hMr3, hMr8, hMr9, hMr10, hMr11, hMr13, hMr14, hMr15, hMr16, hMr17, hMr18, hMr19, hMr20, hMk1, hMk2, hMk3, hMk4, hMk5, hMk6, hMk7, hMk8, hMk9, hMk10, hMk11, hMk12, hMk13, hMk14, hMk15, hMk16, hMT⟩ := hMc
  refine o_met (by decide +kernel) (Nat.le_of_ble_eq_true rfl) (fun p l ee s m args below meth c G b C hr hn => ?_)
  have C : oCx p s m args meth c G b RX9 cX9_likeBox 4 := C
  show oW p l ee ({ frames := 2, cells := 0, slots := 0, locals := 42 } : Room) s m args below meth c G b 4 0 0 (MQ below (o_Qc G b (oPs (fun zx σ2 => zx = (fLike (bxM σ mC) z v).1 ∧ bxM σ2 mC = (fLike (bxM σ mC) z v).2 ∧ ∀ x, (x < mC + 10 ∨ mC + 14 ≤ x) → σ2 x = σ x) T)) args s 0 0 (fun q => b ≤ q)) T σ 0 [some (og mC), some (oi z), some (oi v), none] []
  refine r_il1 (q := 1) C dX9_likeBox_0 rfl ?_
  refine r_callSb (q := 4) C (c_X9_isBox (by omega)) m_X9_216 dX9_likeBox_1 rfl rfl (by decide) (by decide) (Nat.le_of_ble_eq_true rfl) (fun br1 => ?_) (fun br1 => ?_)
  · refine r_ifeq_f (q := 14) (q2 := 7) C (by decide) (by omega) dX9_likeBox_4 (by decide) rfl ?_
    refine r_il2 (q := 8) C dX9_likeBox_7 rfl ?_
    refine r_callSb (q := 11) C (c_X9_isBox (by omega)) m_X9_216 dX9_likeBox_8 rfl rfl (by decide) (by decide) (Nat.le_of_ble_eq_true rfl) (fun br8 => ?_) (fun br8 => ?_)
    · refine r_ifne_t (q := 16) C (by decide) (by omega) dX9_likeBox_11 (by decide) ?_
      obtain ⟨zN, rfl⟩ : ∃ zN : Nat, z = (zN : Int) := ⟨z.toNat, by omega⟩
      have hz3 : zN < 3 := by omega
      have hkz : (0 ≤ σ (mC + 10) zN ∧ σ (mC + 10) zN ≤ 3) ∧ (0 ≤ σ (mC + 11) zN ∧ σ (mC + 11) zN ≤ 8) ∧ ∀ px, px < 8 → (0 ≤ σ (mC + 12) (8 * zN + px) ∧ σ (mC + 12) (8 * zN + px) ≤ 6) ∧ (-1 ≤ σ (mC + 13) (8 * zN + px) ∧ σ (mC + 13) (8 * zN + px) ≤ 5) := hK zN hz3
      obtain ⟨vN, rfl⟩ : ∃ vN : Nat, v = (vN : Int) := ⟨v.toNat, by omega⟩
      have hv3 : vN < 3 := by omega
      have hs := fLike.eq_1 (bxM σ mC) (zN : Int) (vN : Int)
      rw [if_pos ⟨br1, br8⟩] at hs
      simp only [Int.toNat_natCast] at hs
      refine r_al0 (q := 17) C dX9_likeBox_16 rfl ?_
      refine r_getR (q := 20) C f_X9_55 dX9_likeBox_17 rfl rfl (by assumption) (by assumption) (by omega) ?_
      refine r_il2 (q := 21) C dX9_likeBox_20 rfl ?_
      refine r_al0 (q := 22) C dX9_likeBox_21 rfl ?_
      refine r_getR (q := 25) C f_X9_55 dX9_likeBox_22 rfl rfl (by assumption) (by assumption) (by omega) ?_
      refine r_il1 (q := 26) C dX9_likeBox_25 rfl ?_
      refine r_iald (q := 27) C (zN) dX9_likeBox_26 rfl (by assumption) (by omega) (by omega) (by omega) (by decide) ?_
      refine r_iast (q := 28) C (vN) dX9_likeBox_27 rfl (by assumption) (by omega) (by omega) (by omega) (by decide) ?_
      refine r_al0 (q := 29) C dX9_likeBox_28 rfl ?_
      refine r_getR (q := 32) C f_X9_58 dX9_likeBox_29 rfl rfl (by assumption) (by assumption) (by omega) ?_
      refine r_il2 (q := 33) C dX9_likeBox_32 rfl ?_
      refine r_al0 (q := 34) C dX9_likeBox_33 rfl ?_
      refine r_getR (q := 37) C f_X9_58 dX9_likeBox_34 rfl rfl (by assumption) (by assumption) (by omega) ?_
      refine r_il1 (q := 38) C dX9_likeBox_37 rfl ?_
      refine r_iald (q := 39) C (zN) dX9_likeBox_38 rfl (by assumption) (by omega) (by omega) (by omega) (by decide) ?_
      rw [o_up_ne (by omega)]
      refine r_iast (q := 40) C (vN) dX9_likeBox_39 rfl (by assumption) (by omega) (by omega) (by omega) (by decide) ?_
      refine r_iconst (q := 41) C dX9_likeBox_40 rfl ?_
      refine r_is3 (q := 42) C dX9_likeBox_41 rfl (by decide) ?_
      have lp : ∀ (n : Nat) (kx : Nat), 8 - kx < n → (kx ≤ 8) → oW p l ee ({ frames := 2, cells := 0, slots := 0, locals := 42 } : Room) s m args below meth c G b 4 0 0 (MQ below (o_Qc G b (oPs (fun zx σ2 => zx = (fLike (bxM σ mC) (zN : Int) (vN : Int)).1 ∧ bxM σ2 mC = (fLike (bxM σ mC) (zN : Int) (vN : Int)).2 ∧ ∀ x, (x < mC + 10 ∨ mC + 14 ≤ x) → σ2 x = σ x) T)) args s 0 0 (fun q => b ≤ q)) T (o_row (o_row (o_up (o_up σ (mC + 10) vN (σ (mC + 10) zN)) (mC + 11) vN (σ (mC + 11) zN)) (mC + 12) (movF (σ (mC + 12)) (8 * vN) (8 * zN) kx)) (mC + 13) (movF (σ (mC + 13)) (8 * vN) (8 * zN) kx)) 42 [some (og mC), some (oi ((zN : Nat) : Int)), some (oi ((vN : Nat) : Int)), some (oi ((kx : Nat) : Int))] [] := by
        intro n
        induction n with
        | zero =>
          intro kx hms
          exact absurd hms (Nat.not_lt_zero _)
        | succ n ih =>
          intro kx hms k1
          refine r_il3 (q := 43) C dX9_likeBox_42 rfl ?_
          refine r_bipush (q := 45) C dX9_likeBox_43 (by decide) rfl ?_
          refine r_icge (q := 98) (q2 := 48) C (by omega) (by omega) dX9_likeBox_45 (by decide) rfl (fun br45 => ?_) (fun br45 => ?_)
          · rw [show kx = 8 by omega]
            generalize hσ3 : (o_row (o_row (o_up (o_up σ (mC + 10) vN (σ (mC + 10) zN)) (mC + 11) vN (σ (mC + 11) zN)) (mC + 12) (movF (σ (mC + 12)) (8 * vN) (8 * zN) 8)) (mC + 13) (movF (σ (mC + 13)) (8 * vN) (8 * zN) 8)) = σ3
            have hb3 : bxM σ3 mC = likeF (bxM σ mC) zN vN := by
              rw [← hσ3]
              unfold bxM likeF
              rw [o_row_ne (by omega), o_row_ne (by omega), o_row_ne (by omega), o_row_ne (by omega), o_row_ne (by omega), o_row_at, o_row_at, o_up_ne (by omega), o_upF, o_upF, o_up_ne (by omega)]
            have hK3 : oBk (bxM σ3 mC) := by
              rw [hb3]
              exact like_k hK hz3 hv3
            refine r_al0 (q := 99) C dX9_likeBox_98 rfl ?_
            refine r_il2 (q := 100) C dX9_likeBox_99 rfl ?_
            refine r_callV1 (q := 103) C (c_X9_things (zN := vN) hM hK3 hv3) m_X9_219 (by assumption) (by omega) dX9_likeBox_100 rfl rfl (by decide) (by decide) (Nat.le_of_ble_eq_true rfl) ?_
            exact r_iret C hr dX9_likeBox_103 (by decide) (by decide) ⟨_, rfl, rfl, by rw [hs, hb3], by rw [hs, hb3], fun x hx => by rw [← hσ3, o_row_ne (by omega), o_row_ne (by omega), o_up_ne (by omega), o_up_ne (by omega)]⟩
          · refine r_al0 (q := 49) C dX9_likeBox_48 rfl ?_
            refine r_getR (q := 52) C f_X9_61 dX9_likeBox_49 rfl rfl (by assumption) (by assumption) (by omega) ?_
            refine r_bipush (q := 54) C dX9_likeBox_52 (by decide) rfl ?_
            refine r_il2 (q := 55) C dX9_likeBox_54 rfl ?_
            refine r_imul (q := 56) C dX9_likeBox_55 rfl ?_
            refine r_il3 (q := 57) C dX9_likeBox_56 rfl ?_
            refine r_iadd (q := 58) C dX9_likeBox_57 rfl ?_
            refine r_al0 (q := 59) C dX9_likeBox_58 rfl ?_
            refine r_getR (q := 62) C f_X9_61 dX9_likeBox_59 rfl rfl (by assumption) (by assumption) (by omega) ?_
            refine r_bipush (q := 64) C dX9_likeBox_62 (by decide) rfl ?_
            refine r_il1 (q := 65) C dX9_likeBox_64 rfl ?_
            refine r_imul (q := 66) C dX9_likeBox_65 rfl ?_
            refine r_il3 (q := 67) C dX9_likeBox_66 rfl ?_
            refine r_iadd (q := 68) C dX9_likeBox_67 rfl ?_
            refine r_iald (q := 69) C (8 * zN + kx) dX9_likeBox_68 rfl (by assumption) (by omega) (by omega) (by omega) (by decide) ?_
            rw [o_row_ne (by omega), o_row_at, movF_e (by omega)]
            refine r_iast (q := 70) C (8 * vN + kx) dX9_likeBox_69 rfl (by assumption) (by omega) (by omega) (by omega) (by decide) ?_
            refine r_al0 (q := 71) C dX9_likeBox_70 rfl ?_
            refine r_getR (q := 74) C f_X9_64 dX9_likeBox_71 rfl rfl (by assumption) (by assumption) (by omega) ?_
            refine r_bipush (q := 76) C dX9_likeBox_74 (by decide) rfl ?_
            refine r_il2 (q := 77) C dX9_likeBox_76 rfl ?_
            refine r_imul (q := 78) C dX9_likeBox_77 rfl ?_
            refine r_il3 (q := 79) C dX9_likeBox_78 rfl ?_
            refine r_iadd (q := 80) C dX9_likeBox_79 rfl ?_
            refine r_al0 (q := 81) C dX9_likeBox_80 rfl ?_
            refine r_getR (q := 84) C f_X9_64 dX9_likeBox_81 rfl rfl (by assumption) (by assumption) (by omega) ?_
            refine r_bipush (q := 86) C dX9_likeBox_84 (by decide) rfl ?_
            refine r_il1 (q := 87) C dX9_likeBox_86 rfl ?_
            refine r_imul (q := 88) C dX9_likeBox_87 rfl ?_
            refine r_il3 (q := 89) C dX9_likeBox_88 rfl ?_
            refine r_iadd (q := 90) C dX9_likeBox_89 rfl ?_
            refine r_iald (q := 91) C (8 * zN + kx) dX9_likeBox_90 rfl (by assumption) (by omega) (by omega) (by omega) (by decide) ?_
            rw [o_up_ne (by omega), o_row_at, movF_e (by omega)]
            refine r_iast (q := 92) C (8 * vN + kx) dX9_likeBox_91 rfl (by assumption) (by omega) (by omega) (by omega) (by decide) ?_
            rw [o_up_sw (by omega), o_row_up, o_row_us (by omega), movF_s, movF_s]
            refine r_iinc3 (q := 95) C dX9_likeBox_92 rfl (by decide) ?_
            refine r_goto (q := 42) C dX9_likeBox_95 (by decide) ?_
            exact ih (kx + 1) (by omega) (by omega)
      have h0 := lp _ 0 (Nat.lt_succ_self _) (by omega)
      rw [movF_0, movF_0, show o_row (o_row (o_up (o_up σ (mC + 10) vN (σ (mC + 10) zN)) (mC + 11) vN (σ (mC + 11) zN)) (mC + 12) (σ (mC + 12))) (mC + 13) (σ (mC + 13)) = (o_up (o_up σ (mC + 10) vN (σ (mC + 10) zN)) (mC + 11) vN (σ (mC + 11) zN)) by rw [show o_row (o_up (o_up σ (mC + 10) vN (σ (mC + 10) zN)) (mC + 11) vN (σ (mC + 11) zN)) (mC + 12) (σ (mC + 12)) = (o_up (o_up σ (mC + 10) vN (σ (mC + 10) zN)) (mC + 11) vN (σ (mC + 11) zN)) by rw [show σ (mC + 12) = (o_up (o_up σ (mC + 10) vN (σ (mC + 10) zN)) (mC + 11) vN (σ (mC + 11) zN)) (mC + 12) by rw [o_up_ne (by omega), o_up_ne (by omega)]]; exact o_row_self, show σ (mC + 13) = (o_up (o_up σ (mC + 10) vN (σ (mC + 10) zN)) (mC + 11) vN (σ (mC + 11) zN)) (mC + 13) by rw [o_up_ne (by omega), o_up_ne (by omega)]]; exact o_row_self] at h0
      exact h0
    · refine r_ifne_f (q := 16) (q2 := 14) C (by decide) (by omega) dX9_likeBox_11 (by decide) rfl ?_
      refine r_iconst (q := 15) C dX9_likeBox_14 rfl ?_
      exact r_iret C hr dX9_likeBox_15 (by decide) (by decide) ⟨_, rfl, rfl, by rw [fLike, if_neg (fun hc => br8 hc.2)], by rw [fLike, if_neg (fun hc => br8 hc.2)], fun _ _ => rfl⟩
  · refine r_ifeq_t (q := 14) C (by decide) (by omega) dX9_likeBox_4 (by decide) ?_
    refine r_iconst (q := 15) C dX9_likeBox_14 rfl ?_
    exact r_iret C hr dX9_likeBox_15 (by decide) (by decide) ⟨_, rfl, rfl, by rw [fLike, if_neg (fun hc => br1 hc.1)], by rw [fLike, if_neg (fun hc => br1 hc.1)], fun _ _ => rfl⟩
