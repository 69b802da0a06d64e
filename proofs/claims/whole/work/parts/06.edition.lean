set_option maxRecDepth 20000 in
set_option maxHeartbeats 8000000 in
theorem c_X8_within {T : oT} {σ : oM} {z lo hi : Int} (hz : o_r z) (h1 : o_r lo) (h2 : o_r hi) : MS yX8_within cX8_within 3 (some FieldType.boolean) 0 0 0 0 [oi z, oi lo, oi hi] T σ (oPb (lo ≤ z ∧ z ≤ hi) T σ) := by
  refine o_met (by decide +kernel) (Nat.le_of_ble_eq_true rfl) (fun p l ee s m args below meth c G b C hr hn => ?_)
  have C : oCx p s m args meth c G b RX8 cX8_within 3 := C
  show oW p l ee ({ frames := 0, cells := 0, slots := 0, locals := 0 } : Room) s m args below meth c G b 3 0 0 (MQ below (o_Qc G b (oPb (lo ≤ z ∧ z ≤ hi) T σ)) args s 0 0 (fun q => b ≤ q)) T σ 0 [some (oi z), some (oi lo), some (oi hi)] []
  refine r_il0 (q := 1) C dX8_within_0 rfl ?_
  refine r_il1 (q := 2) C dX8_within_1 rfl ?_
  refine r_iclt (q := 14) (q2 := 5) C (by omega) (by omega) dX8_within_2 (by decide) rfl (fun br2 => ?_) (fun br2 => ?_)
  · refine r_iconst (q := 15) C dX8_within_14 rfl ?_
    exact r_zret C hr dX8_within_15 (by decide) (by decide) (by decide) ⟨Or.inr ⟨by omega, rfl⟩, rfl, rfl⟩
  · refine r_il0 (q := 6) C dX8_within_5 rfl ?_
    refine r_il2 (q := 7) C dX8_within_6 rfl ?_
    refine r_icgt (q := 14) (q2 := 10) C (by omega) (by omega) dX8_within_7 (by decide) rfl (fun br7 => ?_) (fun br7 => ?_)
    · refine r_iconst (q := 15) C dX8_within_14 rfl ?_
      exact r_zret C hr dX8_within_15 (by decide) (by decide) (by decide) ⟨Or.inr ⟨by omega, rfl⟩, rfl, rfl⟩
    · refine r_iconst (q := 11) C dX8_within_10 rfl ?_
      refine r_goto (q := 15) C dX8_within_11 (by decide) ?_
      exact r_zret C hr dX8_within_15 (by decide) (by decide) (by decide) ⟨Or.inl ⟨⟨by omega, by omega⟩, rfl⟩, rfl, rfl⟩
set_option maxRecDepth 20000 in
set_option maxHeartbeats 8000000 in
theorem c_X9_in {T : oT} {σ : oM} {z lo hi : Int} (hz : o_r z) (h1 : o_r lo) (h2 : o_r hi) : MS yX9_in cX9_in 3 (some FieldType.boolean) 0 0 0 0 [oi z, oi lo, oi hi] T σ (oPb (lo ≤ z ∧ z ≤ hi) T σ) := by
  refine o_met (by decide +kernel) (Nat.le_of_ble_eq_true rfl) (fun p l ee s m args below meth c G b C hr hn => ?_)
  have C : oCx p s m args meth c G b RX9 cX9_in 3 := C
  show oW p l ee ({ frames := 0, cells := 0, slots := 0, locals := 0 } : Room) s m args below meth c G b 3 0 0 (MQ below (o_Qc G b (oPb (lo ≤ z ∧ z ≤ hi) T σ)) args s 0 0 (fun q => b ≤ q)) T σ 0 [some (oi z), some (oi lo), some (oi hi)] []
  refine r_il0 (q := 1) C dX9_in_0 rfl ?_
  refine r_il1 (q := 2) C dX9_in_1 rfl ?_
  refine r_iclt (q := 14) (q2 := 5) C (by omega) (by omega) dX9_in_2 (by decide) rfl (fun br2 => ?_) (fun br2 => ?_)
  · refine r_iconst (q := 15) C dX9_in_14 rfl ?_
    exact r_zret C hr dX9_in_15 (by decide) (by decide) (by decide) ⟨Or.inr ⟨by omega, rfl⟩, rfl, rfl⟩
  · refine r_il0 (q := 6) C dX9_in_5 rfl ?_
    refine r_il2 (q := 7) C dX9_in_6 rfl ?_
    refine r_icgt (q := 14) (q2 := 10) C (by omega) (by omega) dX9_in_7 (by decide) rfl (fun br7 => ?_) (fun br7 => ?_)
    · refine r_iconst (q := 15) C dX9_in_14 rfl ?_
      exact r_zret C hr dX9_in_15 (by decide) (by decide) (by decide) ⟨Or.inr ⟨by omega, rfl⟩, rfl, rfl⟩
    · refine r_iconst (q := 11) C dX9_in_10 rfl ?_
      refine r_goto (q := 15) C dX9_in_11 (by decide) ?_
      exact r_zret C hr dX9_in_15 (by decide) (by decide) (by decide) ⟨Or.inl ⟨⟨by omega, by omega⟩, rfl⟩, rfl, rfl⟩
set_option maxRecDepth 20000 in
set_option maxHeartbeats 8000000 in
theorem c_X4_barWith {T : oT} {σ : oM} {eC Bn fx : Nat} {vx : Int} (hE : oEd T eC) (hBn : σ eC 2 = (Bn : Int)) (hB2 : Bn ≤ 99) (hf : 1 ≤ fx ∧ fx ≤ 100) (hv : o_r vx) (ho : ∀ jx, 1 ≤ jx → jx ≤ Bn → o_r (σ (eC + 1) jx)) : MS yX4_barWith cX4_barWith 4 (some FieldType.int) 0 0 0 0 [og eC, oi vx, oi ((fx : Nat) : Int)] T σ (oP1 (oi ((fstAt (σ (eC + 1)) vx (Bn + 1 - fx) fx : Nat) : Int)) T σ) := by
  obtain ⟨hE0, hE3, hE4, hE5, hE6, hE7, hE8, hE9, hE10, hA1, hA2, hA3, hA4, hA5, hRw, hA10, hA11, hA12, hTe⟩ := hE
  refine o_met (by decide +kernel) (Nat.le_of_ble_eq_true rfl) (fun p l ee s m args below meth c G b C hr hn => ?_)
  have C : oCx p s m args meth c G b RX4 cX4_barWith 4 := C
  show oW p l ee ({ frames := 0, cells := 0, slots := 0, locals := 0 } : Room) s m args below meth c G b 4 0 0 (MQ below (o_Qc G b (oP1 (oi ((fstAt (σ (eC + 1)) vx (Bn + 1 - fx) fx : Nat) : Int)) T σ)) args s 0 0 (fun q => b ≤ q)) T σ 0 [some (og eC), some (oi vx), some (oi ((fx : Nat) : Int)), none] []
  have lp : ∀ (n : Nat) (jx : Nat), Bn + 1 - jx < n → 1 ≤ jx ∧ jx ≤ 100 → fstAt (σ (eC + 1)) vx (Bn + 1 - fx) fx = fstAt (σ (eC + 1)) vx (Bn + 1 - jx) jx → oW p l ee ({ frames := 0, cells := 0, slots := 0, locals := 0 } : Room) s m args below meth c G b 4 0 0 (MQ below (o_Qc G b (oP1 (oi ((fstAt (σ (eC + 1)) vx (Bn + 1 - fx) fx : Nat) : Int)) T σ)) args s 0 0 (fun q => b ≤ q)) T σ 2 [some (og eC), some (oi vx), some (oi ((fx : Nat) : Int)), some (oi ((jx : Nat) : Int))] [] := by
    intro n
    induction n with
    | zero =>
      intro jx hms
      exact absurd hms (Nat.not_lt_zero _)
    | succ n ih =>
      intro jx hms h1 h2
      refine r_il3 (q := 3) C dX4_barWith_2 rfl ?_
      refine r_al0 (q := 4) C dX4_barWith_3 rfl ?_
      refine r_getI (q := 7) C f_X4_45 dX4_barWith_4 rfl rfl (by assumption) (by omega) ?_
      refine r_icgt (q := 28) (q2 := 10) C (by omega) (by omega) dX4_barWith_7 (by decide) rfl (fun br7 => ?_) (fun br7 => ?_)
      · refine r_iconst (q := 29) C dX4_barWith_28 rfl ?_
        exact r_iret C hr dX4_barWith_29 (by decide) (by decide) ⟨by rw [h2, show Bn + 1 - jx = 0 by omega]; rfl, rfl, rfl⟩
      · refine r_al0 (q := 11) C dX4_barWith_10 rfl ?_
        refine r_getR (q := 14) C f_X4_15 dX4_barWith_11 rfl rfl (by assumption) (by assumption) (by omega) ?_
        refine r_il3 (q := 15) C dX4_barWith_14 rfl ?_
        refine r_iald (q := 16) C (jx) dX4_barWith_15 rfl (by assumption) (by omega) (by omega) (by omega) (by decide) ?_
        refine r_il1 (q := 17) C dX4_barWith_16 rfl ?_
        refine r_icne (q := 22) (q2 := 20) C (ho jx (by omega) (by omega)) hv dX4_barWith_17 (by decide) rfl (fun br17 => ?_) (fun br17 => ?_)
        · refine r_iinc3 (q := 25) C dX4_barWith_22 rfl (by decide) ?_
          refine r_goto (q := 2) C dX4_barWith_25 (by decide) ?_
          exact ih (jx + 1) (by omega) (by omega) (by rw [h2, show Bn + 1 - jx = (Bn - jx) + 1 by omega, fstAt, if_neg br17, show Bn + 1 - (jx + 1) = Bn - jx by omega])
        · refine r_il3 (q := 21) C dX4_barWith_20 rfl ?_
          exact r_iret C hr dX4_barWith_21 (by decide) (by decide) ⟨by rw [h2, show Bn + 1 - jx = (Bn - jx) + 1 by omega, fstAt, if_pos br17], rfl, rfl⟩
  refine r_il2 (q := 1) C dX4_barWith_0 rfl ?_
  refine r_is3 (q := 2) C dX4_barWith_1 rfl (by decide) ?_
  exact lp _ fx (Nat.lt_succ_self _) hf rfl
set_option maxRecDepth 20000 in
set_option maxHeartbeats 8000000 in
theorem c_X4_countingTempo {T : oT} {σ : oM} {eC fx : Nat} (hE : oEd T eC) (hf : fx ≤ 99) (ht : ∀ jx, 1 ≤ jx → jx ≤ fx → o_r (σ (eC + 4) jx)) : MS yX4_countingTempo cX4_countingTempo 3 (some FieldType.int) 0 0 0 0 [og eC, oi ((fx : Nat) : Int)] T σ (oP1 (oi (cTempo (σ (eC + 4)) fx)) T σ) := by
  obtain ⟨hE0, hE3, hE4, hE5, hE6, hE7, hE8, hE9, hE10, hA1, hA2, hA3, hA4, hA5, hRw, hA10, hA11, hA12, hTe⟩ := hE
  refine o_met (by decide +kernel) (Nat.le_of_ble_eq_true rfl) (fun p l ee s m args below meth c G b C hr hn => ?_)
  have C : oCx p s m args meth c G b RX4 cX4_countingTempo 3 := C
  show oW p l ee ({ frames := 0, cells := 0, slots := 0, locals := 0 } : Room) s m args below meth c G b 3 0 0 (MQ below (o_Qc G b (oP1 (oi (cTempo (σ (eC + 4)) fx)) T σ)) args s 0 0 (fun q => b ≤ q)) T σ 0 [some (og eC), some (oi ((fx : Nat) : Int)), none] []
  have lp : ∀ (n : Nat) (jx : Nat), jx < n → jx ≤ fx → cTempo (σ (eC + 4)) fx = cTempo (σ (eC + 4)) jx → oW p l ee ({ frames := 0, cells := 0, slots := 0, locals := 0 } : Room) s m args below meth c G b 3 0 0 (MQ below (o_Qc G b (oP1 (oi (cTempo (σ (eC + 4)) fx)) T σ)) args s 0 0 (fun q => b ≤ q)) T σ 2 [some (og eC), some (oi ((fx : Nat) : Int)), some (oi ((jx : Nat) : Int))] [] := by
    intro n
    induction n with
    | zero =>
      intro jx hms
      exact absurd hms (Nat.not_lt_zero _)
    | succ n ih =>
      intro jx hms h1 h2
      refine r_il2 (q := 3) C dX4_countingTempo_2 rfl ?_
      refine r_iconst (q := 4) C dX4_countingTempo_3 rfl ?_
      refine r_iclt (q := 29) (q2 := 7) C (by omega) (by omega) dX4_countingTempo_4 (by decide) rfl (fun br4 => ?_) (fun br4 => ?_)
      · refine r_sipush (q := 32) C dX4_countingTempo_29 (by decide) rfl ?_
        exact r_iret C hr dX4_countingTempo_32 (by decide) (by decide) ⟨by rw [h2, show jx = 0 by omega]; rfl, rfl, rfl⟩
      · obtain ⟨ix, rfl⟩ : ∃ ix, jx = ix + 1 := ⟨jx - 1, by omega⟩
        refine r_al0 (q := 8) C dX4_countingTempo_7 rfl ?_
        refine r_getR (q := 11) C f_X4_25 dX4_countingTempo_8 rfl rfl (by assumption) (by assumption) (by omega) ?_
        refine r_il2 (q := 12) C dX4_countingTempo_11 rfl ?_
        refine r_iald (q := 13) C (ix + 1) dX4_countingTempo_12 rfl (by assumption) (by omega) (by omega) (by omega) (by decide) ?_
        refine r_ifeq (q := 23) (q2 := 16) C (ht (ix + 1) (by omega) (by omega)) dX4_countingTempo_13 (by decide) rfl (fun br13 => ?_) (fun br13 => ?_)
        · refine r_iinc2 (q := 26) C dX4_countingTempo_23 rfl (by decide) ?_
          refine r_goto (q := 2) C dX4_countingTempo_26 (by decide) ?_
          rw [show ((ix + 1 : Nat) : Int) + (-1) = ((ix : Nat) : Int) by omega]
          exact ih ix (by omega) (by omega) (by rw [h2, cTempo, if_pos br13])
        · refine r_al0 (q := 17) C dX4_countingTempo_16 rfl ?_
          refine r_getR (q := 20) C f_X4_25 dX4_countingTempo_17 rfl rfl (by assumption) (by assumption) (by omega) ?_
          refine r_il2 (q := 21) C dX4_countingTempo_20 rfl ?_
          refine r_iald (q := 22) C (ix + 1) dX4_countingTempo_21 rfl (by assumption) (by omega) (by omega) (by omega) (by decide) ?_
          exact r_iret C hr dX4_countingTempo_22 (by decide) (by decide) ⟨by rw [h2, cTempo, if_neg br13], rfl, rfl⟩
  refine r_il1 (q := 1) C dX4_countingTempo_0 rfl ?_
  refine r_is2 (q := 2) C dX4_countingTempo_1 rfl (by decide) ?_
  exact lp _ fx (Nat.lt_succ_self _) (Nat.le_refl _) rfl
set_option maxRecDepth 20000 in
set_option maxHeartbeats 8000000 in
theorem c_X4_ownTempo {T : oT} {σ : oM} {eC fx : Nat} (hE : oEd T eC) (hf : fx ≤ 99) (ht : o_r (σ (eC + 4) fx)) : MS yX4_ownTempo cX4_ownTempo 2 (some FieldType.int) 0 0 0 0 [og eC, oi ((fx : Nat) : Int)] T σ (oP1 (oi (if σ (eC + 4) fx = 0 then (-7) else σ (eC + 4) fx)) T σ) := by
  obtain ⟨hE0, hE3, hE4, hE5, hE6, hE7, hE8, hE9, hE10, hA1, hA2, hA3, hA4, hA5, hRw, hA10, hA11, hA12, hTe⟩ := hE
  refine o_met (by decide +kernel) (Nat.le_of_ble_eq_true rfl) (fun p l ee s m args below meth c G b C hr hn => ?_)
  have C : oCx p s m args meth c G b RX4 cX4_ownTempo 2 := C
  show oW p l ee ({ frames := 0, cells := 0, slots := 0, locals := 0 } : Room) s m args below meth c G b 2 0 0 (MQ below (o_Qc G b (oP1 (oi (if σ (eC + 4) fx = 0 then (-7) else σ (eC + 4) fx)) T σ)) args s 0 0 (fun q => b ≤ q)) T σ 0 [some (og eC), some (oi ((fx : Nat) : Int))] []
  refine r_al0 (q := 1) C dX4_ownTempo_0 rfl ?_
  refine r_getR (q := 4) C f_X4_25 dX4_ownTempo_1 rfl rfl (by assumption) (by assumption) (by omega) ?_
  refine r_il1 (q := 5) C dX4_ownTempo_4 rfl ?_
  refine r_iald (q := 6) C (fx) dX4_ownTempo_5 rfl (by assumption) (by omega) (by omega) (by omega) (by decide) ?_
  refine r_ifne (q := 14) (q2 := 9) C (by omega) dX4_ownTempo_6 (by decide) rfl (fun br6 => ?_) (fun br6 => ?_)
  · refine r_al0 (q := 15) C dX4_ownTempo_14 rfl ?_
    refine r_getR (q := 18) C f_X4_25 dX4_ownTempo_15 rfl rfl (by assumption) (by assumption) (by omega) ?_
    refine r_il1 (q := 19) C dX4_ownTempo_18 rfl ?_
    refine r_iald (q := 20) C (fx) dX4_ownTempo_19 rfl (by assumption) (by omega) (by omega) (by omega) (by decide) ?_
    exact r_iret C hr dX4_ownTempo_20 (by decide) (by decide) ⟨by rw [if_neg br6], rfl, rfl⟩
  · refine r_bipush (q := 11) C dX4_ownTempo_9 (by decide) rfl ?_
    refine r_goto (q := 20) C dX4_ownTempo_11 (by decide) ?_
    exact r_iret C hr dX4_ownTempo_20 (by decide) (by decide) ⟨by rw [if_pos br6], rfl, rfl⟩
set_option maxRecDepth 20000 in
set_option maxHeartbeats 8000000 in
theorem c_X4_filled {T : oT} {σ : oM} {eC aC Bn : Nat} (hE : oEd T eC) (hBn : σ eC 2 = (Bn : Int)) (hB2 : Bn ≤ 99) (hs : T.2.1 aC = (10, 100)) (haC : aC < T.1) (ht : ∀ jx, 1 ≤ jx → jx ≤ Bn → o_r (σ aC jx)) : MS yX4_filled cX4_filled 4 (some FieldType.int) 0 0 0 0 [og eC, og aC] T σ (oP1 (oi (sumF (fun ix => nz (σ aC (ix + 1))) Bn)) T σ) := by
  obtain ⟨hE0, hE3, hE4, hE5, hE6, hE7, hE8, hE9, hE10, hA1, hA2, hA3, hA4, hA5, hRw, hA10, hA11, hA12, hTe⟩ := hE
  refine o_met (by decide +kernel) (Nat.le_of_ble_eq_true rfl) (fun p l ee s m args below meth c G b C hr hn => ?_)
  have C : oCx p s m args meth c G b RX4 cX4_filled 4 := C
  show oW p l ee ({ frames := 0, cells := 0, slots := 0, locals := 0 } : Room) s m args below meth c G b 4 0 0 (MQ below (o_Qc G b (oP1 (oi (sumF (fun ix => nz (σ aC (ix + 1))) Bn)) T σ)) args s 0 0 (fun q => b ≤ q)) T σ 0 [some (og eC), some (og aC), none, none] []
  have lp : ∀ (n : Nat) (jx : Nat), Bn + 1 - jx < n → 1 ≤ jx ∧ jx ≤ Bn + 1 → oW p l ee ({ frames := 0, cells := 0, slots := 0, locals := 0 } : Room) s m args below meth c G b 4 0 0 (MQ below (o_Qc G b (oP1 (oi (sumF (fun ix => nz (σ aC (ix + 1))) Bn)) T σ)) args s 0 0 (fun q => b ≤ q)) T σ 4 [some (og eC), some (og aC), some (oi (sumF (fun ix => nz (σ aC (ix + 1))) (jx - 1))), some (oi ((jx : Nat) : Int))] [] := by
    intro n
    induction n with
    | zero =>
      intro jx hms
      exact absurd hms (Nat.not_lt_zero _)
    | succ n ih =>
      intro jx hms h1
      refine r_il3 (q := 5) C dX4_filled_4 rfl ?_
      refine r_al0 (q := 6) C dX4_filled_5 rfl ?_
      refine r_getI (q := 9) C f_X4_45 dX4_filled_6 rfl rfl (by assumption) (by omega) ?_
      refine r_icgt (q := 32) (q2 := 12) C (by omega) (by omega) dX4_filled_9 (by decide) rfl (fun br9 => ?_) (fun br9 => ?_)
      · refine r_il2 (q := 33) C dX4_filled_32 rfl ?_
        exact r_iret C hr dX4_filled_33 (by decide) (by decide) ⟨by rw [show jx - 1 = Bn by omega], rfl, rfl⟩
      · refine r_il2 (q := 13) C dX4_filled_12 rfl ?_
        refine r_al1 (q := 14) C dX4_filled_13 rfl ?_
        refine r_il3 (q := 15) C dX4_filled_14 rfl ?_
        refine r_iald (q := 16) C (jx) dX4_filled_15 rfl (by assumption) (by omega) (by omega) (by omega) (by decide) ?_
        refine r_ifne (q := 23) (q2 := 19) C (ht jx (by omega) (by omega)) dX4_filled_16 (by decide) rfl (fun br16 => ?_) (fun br16 => ?_)
        · refine r_iconst (q := 24) C dX4_filled_23 rfl ?_
          refine r_iadd (q := 25) C dX4_filled_24 rfl ?_
          refine r_is2 (q := 26) C dX4_filled_25 rfl (by decide) ?_
          refine r_iinc3 (q := 29) C dX4_filled_26 rfl (by decide) ?_
          refine r_goto (q := 4) C dX4_filled_29 (by decide) ?_
          have br1 : sumF (fun ix => nz (σ aC (ix + 1))) (jx - 1) + 1 = sumF (fun ix => nz (σ aC (ix + 1))) (jx + 1 - 1) := by
            rw [show jx + 1 - 1 = (jx - 1) + 1 by omega, sumF, show jx - 1 + 1 = jx by omega, nz, if_neg br16]
          rw [br1]
          exact ih (jx + 1) (by omega) (by omega)
        · refine r_iconst (q := 20) C dX4_filled_19 rfl ?_
          refine r_goto (q := 24) C dX4_filled_20 (by decide) ?_
          refine r_iadd (q := 25) C dX4_filled_24 rfl ?_
          refine r_is2 (q := 26) C dX4_filled_25 rfl (by decide) ?_
          refine r_iinc3 (q := 29) C dX4_filled_26 rfl (by decide) ?_
          refine r_goto (q := 4) C dX4_filled_29 (by decide) ?_
          have br1 : sumF (fun ix => nz (σ aC (ix + 1))) (jx - 1) + 0 = sumF (fun ix => nz (σ aC (ix + 1))) (jx + 1 - 1) := by
            rw [show jx + 1 - 1 = (jx - 1) + 1 by omega, sumF, show jx - 1 + 1 = jx by omega, nz, if_pos br16]
          rw [br1]
          exact ih (jx + 1) (by omega) (by omega)
  refine r_iconst (q := 1) C dX4_filled_0 rfl ?_
  refine r_is2 (q := 2) C dX4_filled_1 rfl (by decide) ?_
  refine r_iconst (q := 3) C dX4_filled_2 rfl ?_
  refine r_is3 (q := 4) C dX4_filled_3 rfl (by decide) ?_
  exact lp _ 1 (Nat.lt_succ_self _) (by omega)
set_option maxRecDepth 20000 in
set_option maxHeartbeats 8000000 in
theorem c_X4_ownTempos {T : oT} {σ : oM} {eC Bn : Nat} (hE : oEd T eC) (hBn : σ eC 2 = (Bn : Int)) (hB2 : Bn ≤ 99) (ht : ∀ jx, 1 ≤ jx → jx ≤ Bn → o_r (σ (eC + 4) jx)) : MS yX4_ownTempos cX4_ownTempos 1 (some FieldType.int) 1 0 0 23 [og eC] T σ (oP1 (oi (sumF (fun ix => nz (σ (eC + 4) (ix + 1))) Bn)) T σ) := by
  have hEc := hE
  obtain ⟨hE0, hE3, hE4, hE5, hE6, hE7, hE8, hE9, hE10, hA1, hA2, hA3, hA4, hA5, hRw, hA10, hA11, hA12, hTe⟩ := hEc
  refine o_met (by decide +kernel) (Nat.le_of_ble_eq_true rfl) (fun p l ee s m args below meth c G b C hr hn => ?_)
  have C : oCx p s m args meth c G b RX4 cX4_ownTempos 1 := C
  show oW p l ee ({ frames := 1, cells := 0, slots := 0, locals := 23 } : Room) s m args below meth c G b 1 0 0 (MQ below (o_Qc G b (oP1 (oi (sumF (fun ix => nz (σ (eC + 4) (ix + 1))) Bn)) T σ)) args s 0 0 (fun q => b ≤ q)) T σ 0 [some (og eC)] []
  refine r_al0 (q := 1) C dX4_ownTempos_0 rfl ?_
  refine r_al0 (q := 2) C dX4_ownTempos_1 rfl ?_
  refine r_getR (q := 5) C f_X4_25 dX4_ownTempos_2 rfl rfl (by assumption) (by assumption) (by omega) ?_
  refine r_callV1 (q := 8) C (c_X4_filled hE hBn hB2 hA4 (by omega) ht) m_X4_86 (by assumption) (by omega) dX4_ownTempos_5 rfl rfl (by decide) (by decide) (Nat.le_of_ble_eq_true rfl) ?_
  exact r_iret C hr dX4_ownTempos_8 (by decide) (by decide) ⟨rfl, rfl, rfl⟩
set_option maxRecDepth 20000 in
set_option maxHeartbeats 8000000 in
theorem c_X4_bowingsInAll {T : oT} {σ : oM} {eC Bn : Nat} (hE : oEd T eC) (hBn : σ eC 2 = (Bn : Int)) (hB2 : Bn ≤ 99) (ht : ∀ ix, ix < 4 → ∀ jx, 1 ≤ jx → jx ≤ Bn → o_r (σ (eC + 6 + ix) jx)) : MS yX4_bowingsInAll cX4_bowingsInAll 3 (some FieldType.int) 1 0 0 23 [og eC] T σ (oP1 (oi (sumF (fun ix => sumF (fun jx => nz (σ (eC + 6 + ix) (jx + 1))) Bn) 4)) T σ) := by
  have hEc := hE
  obtain ⟨hE0, hE3, hE4, hE5, hE6, hE7, hE8, hE9, hE10, hA1, hA2, hA3, hA4, hA5, hRw, hA10, hA11, hA12, hTe⟩ := hEc
  refine o_met (by decide +kernel) (Nat.le_of_ble_eq_true rfl) (fun p l ee s m args below meth c G b C hr hn => ?_)
  have C : oCx p s m args meth c G b RX4 cX4_bowingsInAll 3 := C
  show oW p l ee ({ frames := 1, cells := 0, slots := 0, locals := 23 } : Room) s m args below meth c G b 3 0 0 (MQ below (o_Qc G b (oP1 (oi (sumF (fun ix => sumF (fun jx => nz (σ (eC + 6 + ix) (jx + 1))) Bn) 4)) T σ)) args s 0 0 (fun q => b ≤ q)) T σ 0 [some (og eC), none, none] []
  have lp : ∀ (n : Nat) (jx : Nat), 4 - jx < n → jx ≤ 4 → oW p l ee ({ frames := 1, cells := 0, slots := 0, locals := 23 } : Room) s m args below meth c G b 3 0 0 (MQ below (o_Qc G b (oP1 (oi (sumF (fun ix => sumF (fun jx => nz (σ (eC + 6 + ix) (jx + 1))) Bn) 4)) T σ)) args s 0 0 (fun q => b ≤ q)) T σ 4 [some (og eC), some (oi (sumF (fun ix => sumF (fun jx => nz (σ (eC + 6 + ix) (jx + 1))) Bn) jx)), some (oi ((jx : Nat) : Int))] [] := by
    intro n
    induction n with
    | zero =>
      intro jx hms
      exact absurd hms (Nat.not_lt_zero _)
    | succ n ih =>
      intro jx hms h1
      refine r_il2 (q := 5) C dX4_bowingsInAll_4 rfl ?_
      refine r_iconst (q := 6) C dX4_bowingsInAll_5 rfl ?_
      refine r_icge (q := 28) (q2 := 9) C (by omega) (by omega) dX4_bowingsInAll_6 (by decide) rfl (fun br6 => ?_) (fun br6 => ?_)
      · refine r_il1 (q := 29) C dX4_bowingsInAll_28 rfl ?_
        exact r_iret C hr dX4_bowingsInAll_29 (by decide) (by decide) ⟨by rw [show jx = 4 by omega], rfl, rfl⟩
      · refine r_il1 (q := 10) C dX4_bowingsInAll_9 rfl ?_
        refine r_al0 (q := 11) C dX4_bowingsInAll_10 rfl ?_
        refine r_al0 (q := 12) C dX4_bowingsInAll_11 rfl ?_
        refine r_getR (q := 15) C f_X4_30 dX4_bowingsInAll_12 rfl rfl (by assumption) (by assumption) (by omega) ?_
        refine r_il2 (q := 16) C dX4_bowingsInAll_15 rfl ?_
        refine r_aald (q := 17) C (jx) dX4_bowingsInAll_16 rfl (by assumption) (by omega) (by omega) (by omega) (by decide) (hRw jx (by omega)).1 rfl rfl (by decide) (by decide) ?_
        refine r_callV1 (q := 20) C (c_X4_filled hE hBn hB2 (hRw jx (by omega)).2 (by omega) (ht jx (by omega))) m_X4_86 (by assumption) (by omega) dX4_bowingsInAll_17 rfl rfl (by decide) (by decide) (Nat.le_of_ble_eq_true rfl) ?_
        refine r_iadd (q := 21) C dX4_bowingsInAll_20 rfl ?_
        refine r_is1 (q := 22) C dX4_bowingsInAll_21 rfl (by decide) ?_
        refine r_iinc2 (q := 25) C dX4_bowingsInAll_22 rfl (by decide) ?_
        refine r_goto (q := 4) C dX4_bowingsInAll_25 (by decide) ?_
        exact ih (jx + 1) (by omega) (by omega)
  refine r_iconst (q := 1) C dX4_bowingsInAll_0 rfl ?_
  refine r_is1 (q := 2) C dX4_bowingsInAll_1 rfl (by decide) ?_
  refine r_iconst (q := 3) C dX4_bowingsInAll_2 rfl ?_
  refine r_is2 (q := 4) C dX4_bowingsInAll_3 rfl (by decide) ?_
  exact lp _ 0 (Nat.lt_succ_self _) (by omega)
set_option maxRecDepth 20000 in
set_option maxHeartbeats 8000000 in
theorem c_X4_beatsInAll {T : oT} {σ : oM} {eC Bn : Nat} (hE : oEd T eC) (hBn : σ eC 2 = (Bn : Int)) (hB2 : Bn ≤ 99) : MS yX4_beatsInAll cX4_beatsInAll 3 (some FieldType.int) 0 0 0 0 [og eC] T σ (oP1 (oi (sumF (fun ix => σ (eC + 3) (ix + 1)) Bn)) T σ) := by
  obtain ⟨hE0, hE3, hE4, hE5, hE6, hE7, hE8, hE9, hE10, hA1, hA2, hA3, hA4, hA5, hRw, hA10, hA11, hA12, hTe⟩ := hE
  refine o_met (by decide +kernel) (Nat.le_of_ble_eq_true rfl) (fun p l ee s m args below meth c G b C hr hn => ?_)
  have C : oCx p s m args meth c G b RX4 cX4_beatsInAll 3 := C
  show oW p l ee ({ frames := 0, cells := 0, slots := 0, locals := 0 } : Room) s m args below meth c G b 3 0 0 (MQ below (o_Qc G b (oP1 (oi (sumF (fun ix => σ (eC + 3) (ix + 1)) Bn)) T σ)) args s 0 0 (fun q => b ≤ q)) T σ 0 [some (og eC), none, none] []
  have lp : ∀ (n : Nat) (jx : Nat), Bn + 1 - jx < n → 1 ≤ jx ∧ jx ≤ Bn + 1 → oW p l ee ({ frames := 0, cells := 0, slots := 0, locals := 0 } : Room) s m args below meth c G b 3 0 0 (MQ below (o_Qc G b (oP1 (oi (sumF (fun ix => σ (eC + 3) (ix + 1)) Bn)) T σ)) args s 0 0 (fun q => b ≤ q)) T σ 4 [some (og eC), some (oi (sumF (fun ix => σ (eC + 3) (ix + 1)) (jx - 1))), some (oi ((jx : Nat) : Int))] [] := by
    intro n
    induction n with
    | zero =>
      intro jx hms
      exact absurd hms (Nat.not_lt_zero _)
    | succ n ih =>
      intro jx hms h1
      refine r_il2 (q := 5) C dX4_beatsInAll_4 rfl ?_
      refine r_al0 (q := 6) C dX4_beatsInAll_5 rfl ?_
      refine r_getI (q := 9) C f_X4_45 dX4_beatsInAll_6 rfl rfl (by assumption) (by omega) ?_
      refine r_icgt (q := 27) (q2 := 12) C (by omega) (by omega) dX4_beatsInAll_9 (by decide) rfl (fun br9 => ?_) (fun br9 => ?_)
      · refine r_il1 (q := 28) C dX4_beatsInAll_27 rfl ?_
        exact r_iret C hr dX4_beatsInAll_28 (by decide) (by decide) ⟨by rw [show jx - 1 = Bn by omega], rfl, rfl⟩
      · refine r_il1 (q := 13) C dX4_beatsInAll_12 rfl ?_
        refine r_al0 (q := 14) C dX4_beatsInAll_13 rfl ?_
        refine r_getR (q := 17) C f_X4_22 dX4_beatsInAll_14 rfl rfl (by assumption) (by assumption) (by omega) ?_
        refine r_il2 (q := 18) C dX4_beatsInAll_17 rfl ?_
        refine r_iald (q := 19) C (jx) dX4_beatsInAll_18 rfl (by assumption) (by omega) (by omega) (by omega) (by decide) ?_
        refine r_iadd (q := 20) C dX4_beatsInAll_19 rfl ?_
        refine r_is1 (q := 21) C dX4_beatsInAll_20 rfl (by decide) ?_
        refine r_iinc2 (q := 24) C dX4_beatsInAll_21 rfl (by decide) ?_
        refine r_goto (q := 4) C dX4_beatsInAll_24 (by decide) ?_
        have br1 : sumF (fun ix => σ (eC + 3) (ix + 1)) (jx - 1) + σ (eC + 3) jx = sumF (fun ix => σ (eC + 3) (ix + 1)) (jx + 1 - 1) := by
          rw [show jx + 1 - 1 = (jx - 1) + 1 by omega, sumF, show jx - 1 + 1 = jx by omega]
        rw [br1]
        exact ih (jx + 1) (by omega) (by omega)
  refine r_iconst (q := 1) C dX4_beatsInAll_0 rfl ?_
  refine r_is1 (q := 2) C dX4_beatsInAll_1 rfl (by decide) ?_
  refine r_iconst (q := 3) C dX4_beatsInAll_2 rfl ?_
  refine r_is2 (q := 4) C dX4_beatsInAll_3 rfl (by decide) ?_
  exact lp _ 1 (Nat.lt_succ_self _) (by omega)
set_option maxRecDepth 20000 in
set_option maxHeartbeats 8000000 in
theorem c_X4_copies {T : oT} {σ : oM} {eC ix : Nat} {wx : Int} (hE : oEd T eC) (hi : ix < 6) (hw : o_r wx) : MS yX4_copies cX4_copies 3 (some FieldType.int) 0 0 0 0 [og eC, oi ((ix : Nat) : Int), oi wx] T σ (oP1 (oi (if wx = 1 then σ (eC + 10) ix else if wx = 2 then σ (eC + 11) ix else if wx = 3 then σ (eC + 12) ix else σ (eC + 10) ix + σ (eC + 11) ix + σ (eC + 12) ix)) T σ) := by
  obtain ⟨hE0, hE3, hE4, hE5, hE6, hE7, hE8, hE9, hE10, hA1, hA2, hA3, hA4, hA5, hRw, hA10, hA11, hA12, hTe⟩ := hE
  refine o_met (by decide +kernel) (Nat.le_of_ble_eq_true rfl) (fun p l ee s m args below meth c G b C hr hn => ?_)
  have C : oCx p s m args meth c G b RX4 cX4_copies 3 := C
  show oW p l ee ({ frames := 0, cells := 0, slots := 0, locals := 0 } : Room) s m args below meth c G b 3 0 0 (MQ below (o_Qc G b (oP1 (oi (if wx = 1 then σ (eC + 10) ix else if wx = 2 then σ (eC + 11) ix else if wx = 3 then σ (eC + 12) ix else σ (eC + 10) ix + σ (eC + 11) ix + σ (eC + 12) ix)) T σ)) args s 0 0 (fun q => b ≤ q)) T σ 0 [some (og eC), some (oi ((ix : Nat) : Int)), some (oi wx)] []
  refine r_il2 (q := 1) C dX4_copies_0 rfl ?_
  rcases (show wx = 1 ∨ wx = 2 ∨ wx = 3 ∨ (wx < 1 ∨ 3 < wx) by omega) with hw1 | hw1 | hw1 | hw1
  ·
    refine r_tsin (q := 28) (j := 0) C dX4_copies_1 (by omega) (by omega) (by decide) rfl (by decide) ?_
    refine r_al0 (q := 29) C dX4_copies_28 rfl ?_
    refine r_getR (q := 32) C f_X4_33 dX4_copies_29 rfl rfl (by assumption) (by assumption) (by omega) ?_
    refine r_il1 (q := 33) C dX4_copies_32 rfl ?_
    refine r_iald (q := 34) C (ix) dX4_copies_33 rfl (by assumption) (by omega) (by omega) (by omega) (by decide) ?_
    exact r_iret C hr dX4_copies_34 (by decide) (by decide) ⟨by rw [if_pos hw1], rfl, rfl⟩
  ·
    refine r_tsin (q := 35) (j := 1) C dX4_copies_1 (by omega) (by omega) (by decide) rfl (by decide) ?_
    refine r_al0 (q := 36) C dX4_copies_35 rfl ?_
    refine r_getR (q := 39) C f_X4_36 dX4_copies_36 rfl rfl (by assumption) (by assumption) (by omega) ?_
    refine r_il1 (q := 40) C dX4_copies_39 rfl ?_
    refine r_iald (q := 41) C (ix) dX4_copies_40 rfl (by assumption) (by omega) (by omega) (by omega) (by decide) ?_
    exact r_iret C hr dX4_copies_41 (by decide) (by decide) ⟨by rw [if_neg (by omega), if_pos hw1], rfl, rfl⟩
  ·
    refine r_tsin (q := 42) (j := 2) C dX4_copies_1 (by omega) (by omega) (by decide) rfl (by decide) ?_
    refine r_al0 (q := 43) C dX4_copies_42 rfl ?_
    refine r_getR (q := 46) C f_X4_39 dX4_copies_43 rfl rfl (by assumption) (by assumption) (by omega) ?_
    refine r_il1 (q := 47) C dX4_copies_46 rfl ?_
    refine r_iald (q := 48) C (ix) dX4_copies_47 rfl (by assumption) (by omega) (by omega) (by omega) (by decide) ?_
    exact r_iret C hr dX4_copies_48 (by decide) (by decide) ⟨by rw [if_neg (by omega), if_neg (by omega), if_pos hw1], rfl, rfl⟩
  ·
    refine r_tsout (q := 49) C dX4_copies_1 (by omega) (by omega) (by decide) ?_
    refine r_al0 (q := 50) C dX4_copies_49 rfl ?_
    refine r_getR (q := 53) C f_X4_33 dX4_copies_50 rfl rfl (by assumption) (by assumption) (by omega) ?_
    refine r_il1 (q := 54) C dX4_copies_53 rfl ?_
    refine r_iald (q := 55) C (ix) dX4_copies_54 rfl (by assumption) (by omega) (by omega) (by omega) (by decide) ?_
    refine r_al0 (q := 56) C dX4_copies_55 rfl ?_
    refine r_getR (q := 59) C f_X4_36 dX4_copies_56 rfl rfl (by assumption) (by assumption) (by omega) ?_
    refine r_il1 (q := 60) C dX4_copies_59 rfl ?_
    refine r_iald (q := 61) C (ix) dX4_copies_60 rfl (by assumption) (by omega) (by omega) (by omega) (by decide) ?_
    refine r_iadd (q := 62) C dX4_copies_61 rfl ?_
    refine r_al0 (q := 63) C dX4_copies_62 rfl ?_
    refine r_getR (q := 66) C f_X4_39 dX4_copies_63 rfl rfl (by assumption) (by assumption) (by omega) ?_
    refine r_il1 (q := 67) C dX4_copies_66 rfl ?_
    refine r_iald (q := 68) C (ix) dX4_copies_67 rfl (by assumption) (by omega) (by omega) (by omega) (by decide) ?_
    refine r_iadd (q := 69) C dX4_copies_68 rfl ?_
    exact r_iret C hr dX4_copies_69 (by decide) (by decide) ⟨by rw [if_neg (by omega), if_neg (by omega), if_neg (by omega)], rfl, rfl⟩
set_option maxRecDepth 20000 in
set_option maxHeartbeats 8000000 in
theorem c_X4_copiesInAll {T : oT} {σ : oM} {eC : Nat} {wx : Int} (hE : oEd T eC) (hw : o_r wx) : MS yX4_copiesInAll cX4_copiesInAll 4 (some FieldType.int) 1 0 0 22 [og eC, oi wx] T σ (oP1 (oi (sumF (fun ix => if wx = 1 then σ (eC + 10) ix else if wx = 2 then σ (eC + 11) ix else if wx = 3 then σ (eC + 12) ix else σ (eC + 10) ix + σ (eC + 11) ix + σ (eC + 12) ix) 6)) T σ) := by
  have hEc := hE
  obtain ⟨hE0, hE3, hE4, hE5, hE6, hE7, hE8, hE9, hE10, hA1, hA2, hA3, hA4, hA5, hRw, hA10, hA11, hA12, hTe⟩ := hEc
  refine o_met (by decide +kernel) (Nat.le_of_ble_eq_true rfl) (fun p l ee s m args below meth c G b C hr hn => ?_)
  have C : oCx p s m args meth c G b RX4 cX4_copiesInAll 4 := C
  show oW p l ee ({ frames := 1, cells := 0, slots := 0, locals := 22 } : Room) s m args below meth c G b 4 0 0 (MQ below (o_Qc G b (oP1 (oi (sumF (fun ix => if wx = 1 then σ (eC + 10) ix else if wx = 2 then σ (eC + 11) ix else if wx = 3 then σ (eC + 12) ix else σ (eC + 10) ix + σ (eC + 11) ix + σ (eC + 12) ix) 6)) T σ)) args s 0 0 (fun q => b ≤ q)) T σ 0 [some (og eC), some (oi wx), none, none] []
  have lp : ∀ (n : Nat) (jx : Nat), 6 - jx < n → jx ≤ 6 → oW p l ee ({ frames := 1, cells := 0, slots := 0, locals := 22 } : Room) s m args below meth c G b 4 0 0 (MQ below (o_Qc G b (oP1 (oi (sumF (fun ix => if wx = 1 then σ (eC + 10) ix else if wx = 2 then σ (eC + 11) ix else if wx = 3 then σ (eC + 12) ix else σ (eC + 10) ix + σ (eC + 11) ix + σ (eC + 12) ix) 6)) T σ)) args s 0 0 (fun q => b ≤ q)) T σ 4 [some (og eC), some (oi wx), some (oi (sumF (fun ix => if wx = 1 then σ (eC + 10) ix else if wx = 2 then σ (eC + 11) ix else if wx = 3 then σ (eC + 12) ix else σ (eC + 10) ix + σ (eC + 11) ix + σ (eC + 12) ix) jx)), some (oi ((jx : Nat) : Int))] [] := by
    intro n
    induction n with
    | zero =>
      intro jx hms
      exact absurd hms (Nat.not_lt_zero _)
    | succ n ih =>
      intro jx hms h1
      refine r_il3 (q := 5) C dX4_copiesInAll_4 rfl ?_
      refine r_bipush (q := 7) C dX4_copiesInAll_5 (by decide) rfl ?_
      refine r_icge (q := 25) (q2 := 10) C (by omega) (by omega) dX4_copiesInAll_7 (by decide) rfl (fun br7 => ?_) (fun br7 => ?_)
      · refine r_il2 (q := 26) C dX4_copiesInAll_25 rfl ?_
        exact r_iret C hr dX4_copiesInAll_26 (by decide) (by decide) ⟨by rw [show jx = 6 by omega], rfl, rfl⟩
      · refine r_il2 (q := 11) C dX4_copiesInAll_10 rfl ?_
        refine r_al0 (q := 12) C dX4_copiesInAll_11 rfl ?_
        refine r_il3 (q := 13) C dX4_copiesInAll_12 rfl ?_
        refine r_il1 (q := 14) C dX4_copiesInAll_13 rfl ?_
        refine r_callV1 (q := 17) C (c_X4_copies hE (by omega) hw) m_X4_90 (by assumption) (by omega) dX4_copiesInAll_14 rfl rfl (by decide) (by decide) (Nat.le_of_ble_eq_true rfl) ?_
        refine r_iadd (q := 18) C dX4_copiesInAll_17 rfl ?_
        refine r_is2 (q := 19) C dX4_copiesInAll_18 rfl (by decide) ?_
        refine r_iinc3 (q := 22) C dX4_copiesInAll_19 rfl (by decide) ?_
        refine r_goto (q := 4) C dX4_copiesInAll_22 (by decide) ?_
        exact ih (jx + 1) (by omega) (by omega)
  refine r_iconst (q := 1) C dX4_copiesInAll_0 rfl ?_
  refine r_is2 (q := 2) C dX4_copiesInAll_1 rfl (by decide) ?_
  refine r_iconst (q := 3) C dX4_copiesInAll_2 rfl ?_
  refine r_is3 (q := 4) C dX4_copiesInAll_3 rfl (by decide) ?_
  exact lp _ 0 (Nat.lt_succ_self _) (by omega)
set_option maxRecDepth 20000 in
set_option maxHeartbeats 8000000 in
theorem c_X4_isBought {T : oT} {σ : oM} {eC : Nat} (hE : oEd T eC) (hb : ∀ ix, ix < 6 → -1000000 ≤ σ (eC + 10) ix + σ (eC + 11) ix + σ (eC + 12) ix ∧ σ (eC + 10) ix + σ (eC + 11) ix + σ (eC + 12) ix ≤ 1000000) : MS yX4_isBought cX4_isBought 1 (some FieldType.boolean) 2 0 0 45 [og eC] T σ (oPb (0 < sumF (fun ix => σ (eC + 10) ix + σ (eC + 11) ix + σ (eC + 12) ix) 6) T σ) := by
  have hEc := hE
  obtain ⟨hE0, hE3, hE4, hE5, hE6, hE7, hE8, hE9, hE10, hA1, hA2, hA3, hA4, hA5, hRw, hA10, hA11, hA12, hTe⟩ := hEc
  refine o_met (by decide +kernel) (Nat.le_of_ble_eq_true rfl) (fun p l ee s m args below meth c G b C hr hn => ?_)
  have C : oCx p s m args meth c G b RX4 cX4_isBought 1 := C
  show oW p l ee ({ frames := 2, cells := 0, slots := 0, locals := 45 } : Room) s m args below meth c G b 1 0 0 (MQ below (o_Qc G b (oPb (0 < sumF (fun ix => σ (eC + 10) ix + σ (eC + 11) ix + σ (eC + 12) ix) 6) T σ)) args s 0 0 (fun q => b ≤ q)) T σ 0 [some (og eC)] []
  refine r_al0 (q := 1) C dX4_isBought_0 rfl ?_
  refine r_iconst (q := 2) C dX4_isBought_1 rfl ?_
  refine r_callV1 (q := 5) C (c_X4_copiesInAll (wx := 0) hE (by omega)) m_X4_94 (by assumption) (by omega) dX4_isBought_2 rfl rfl (by decide) (by decide) (Nat.le_of_ble_eq_true rfl) ?_
  have hs := sumF_in hb
  have es : sumF (fun ix => if (0 : Int) = 1 then σ (eC + 10) ix else if (0 : Int) = 2 then σ (eC + 11) ix else if (0 : Int) = 3 then σ (eC + 12) ix else σ (eC + 10) ix + σ (eC + 11) ix + σ (eC + 12) ix) 6 = sumF (fun ix => σ (eC + 10) ix + σ (eC + 11) ix + σ (eC + 12) ix) 6 := rfl
  rw [es]
  refine r_ifle (q := 12) (q2 := 8) C (by omega) dX4_isBought_5 (by decide) rfl (fun br5 => ?_) (fun br5 => ?_)
  · refine r_iconst (q := 13) C dX4_isBought_12 rfl ?_
    exact r_zret C hr dX4_isBought_13 (by decide) (by decide) (by decide) ⟨Or.inr ⟨by omega, rfl⟩, rfl, rfl⟩
  · refine r_iconst (q := 9) C dX4_isBought_8 rfl ?_
    refine r_goto (q := 13) C dX4_isBought_9 (by decide) ?_
    exact r_zret C hr dX4_isBought_13 (by decide) (by decide) (by decide) ⟨Or.inl ⟨by omega, rfl⟩, rfl, rfl⟩
