set_option maxRecDepth 20000 in
set_option maxHeartbeats 8000000 in
theorem c_X7_isOverdue {T : oT} {σ : oM} {aC : Nat} {dyx : Int} (hL0 : T.2.1 aC = (7, 0)) (hL1 : aC < T.1) (hd1 : o_r dyx) (hd2 : o_r (σ aC 4)) (hd3 : o_r (σ aC 6)) : MS yX7_isOverdue cX7_isOverdue 2 (some FieldType.boolean) 0 0 0 0 [og aC, oi dyx] T σ (oPb (0 < σ aC 4 ∧ σ aC 6 < dyx) T σ) := by
  refine o_met (by decide +kernel) (Nat.le_of_ble_eq_true rfl) (fun p l ee s m args below meth c G b C hr hn => ?_)
  have C : oCx p s m args meth c G b RX7 cX7_isOverdue 2 := C
  show oW p l ee ({ frames := 0, cells := 0, slots := 0, locals := 0 } : Room) s m args below meth c G b 2 0 0 (MQ below (o_Qc G b (oPb (0 < σ aC 4 ∧ σ aC 6 < dyx) T σ)) args s 0 0 (fun q => b ≤ q)) T σ 0 [some (og aC), some (oi dyx)] []
  refine r_al0 (q := 1) C dX7_isOverdue_0 rfl ?_
  refine r_getI (q := 4) C f_X7_24 dX7_isOverdue_1 rfl rfl (by assumption) (by omega) ?_
  refine r_ifle (q := 19) (q2 := 7) C (by omega) dX7_isOverdue_4 (by decide) rfl (fun br4 => ?_) (fun br4 => ?_)
  · refine r_iconst (q := 20) C dX7_isOverdue_19 rfl ?_
    exact r_zret C hr dX7_isOverdue_20 (by decide) (by decide) (by decide) ⟨Or.inr ⟨by omega, rfl⟩, rfl, rfl⟩
  · refine r_il1 (q := 8) C dX7_isOverdue_7 rfl ?_
    refine r_al0 (q := 9) C dX7_isOverdue_8 rfl ?_
    refine r_getI (q := 12) C f_X7_30 dX7_isOverdue_9 rfl rfl (by assumption) (by omega) ?_
    refine r_icle (q := 19) (q2 := 15) C (by omega) (by omega) dX7_isOverdue_12 (by decide) rfl (fun br12 => ?_) (fun br12 => ?_)
    · refine r_iconst (q := 20) C dX7_isOverdue_19 rfl ?_
      exact r_zret C hr dX7_isOverdue_20 (by decide) (by decide) (by decide) ⟨Or.inr ⟨by omega, rfl⟩, rfl, rfl⟩
    · refine r_iconst (q := 16) C dX7_isOverdue_15 rfl ?_
      refine r_goto (q := 20) C dX7_isOverdue_16 (by decide) ?_
      exact r_zret C hr dX7_isOverdue_20 (by decide) (by decide) (by decide) ⟨Or.inl ⟨by omega, rfl⟩, rfl, rfl⟩
set_option maxRecDepth 20000 in
set_option maxHeartbeats 8000000 in
theorem c_X7_number {T : oT} {σ : oM} {aC : Nat} {wx dyx : Int} (hL0 : T.2.1 aC = (7, 0)) (hL1 : aC < T.1) (hw : o_r wx) (hd1 : o_r dyx) (hd2 : o_r (σ aC 4)) (hd3 : o_r (σ aC 6)) : MS yX7_number cX7_number 3 (some FieldType.int) 1 0 0 21 [og aC, oi wx, oi dyx] T σ (oP1 (oi (if wx = 0 then σ aC 4 else if wx = 1 then σ aC 5 else if wx = 2 then σ aC 7 else if 0 < σ aC 4 ∧ σ aC 6 < dyx then 1 else 0)) T σ) := by
  refine o_met (by decide +kernel) (Nat.le_of_ble_eq_true rfl) (fun p l ee s m args below meth c G b C hr hn => ?_)
  have C : oCx p s m args meth c G b RX7 cX7_number 3 := C
  show oW p l ee ({ frames := 1, cells := 0, slots := 0, locals := 21 } : Room) s m args below meth c G b 3 0 0 (MQ below (o_Qc G b (oP1 (oi (if wx = 0 then σ aC 4 else if wx = 1 then σ aC 5 else if wx = 2 then σ aC 7 else if 0 < σ aC 4 ∧ σ aC 6 < dyx then 1 else 0)) T σ)) args s 0 0 (fun q => b ≤ q)) T σ 0 [some (og aC), some (oi wx), some (oi dyx)] []
  refine r_il1 (q := 1) C dX7_number_0 rfl ?_
  rcases (show wx = 0 ∨ wx = 1 ∨ wx = 2 ∨ (wx < 0 ∨ 2 < wx) by omega) with hw1 | hw1 | hw1 | hw1
  ·
    refine r_tsin (q := 28) (j := 0) C dX7_number_1 (by omega) (by omega) (by decide) rfl (by decide) ?_
    refine r_al0 (q := 29) C dX7_number_28 rfl ?_
    refine r_getI (q := 32) C f_X7_24 dX7_number_29 rfl rfl (by assumption) (by omega) ?_
    exact r_iret C hr dX7_number_32 (by decide) (by decide) ⟨by rw [if_pos hw1], rfl, rfl⟩
  ·
    refine r_tsin (q := 33) (j := 1) C dX7_number_1 (by omega) (by omega) (by decide) rfl (by decide) ?_
    refine r_al0 (q := 34) C dX7_number_33 rfl ?_
    refine r_getI (q := 37) C f_X7_27 dX7_number_34 rfl rfl (by assumption) (by omega) ?_
    exact r_iret C hr dX7_number_37 (by decide) (by decide) ⟨by rw [if_neg (by omega), if_pos hw1], rfl, rfl⟩
  ·
    refine r_tsin (q := 38) (j := 2) C dX7_number_1 (by omega) (by omega) (by decide) rfl (by decide) ?_
    refine r_al0 (q := 39) C dX7_number_38 rfl ?_
    refine r_getI (q := 42) C f_X7_33 dX7_number_39 rfl rfl (by assumption) (by omega) ?_
    exact r_iret C hr dX7_number_42 (by decide) (by decide) ⟨by rw [if_neg (by omega), if_neg (by omega), if_pos hw1], rfl, rfl⟩
  ·
    refine r_tsout (q := 43) C dX7_number_1 (by omega) (by omega) (by decide) ?_
    refine r_al0 (q := 44) C dX7_number_43 rfl ?_
    refine r_il2 (q := 45) C dX7_number_44 rfl ?_
    refine r_callVb (q := 48) C (c_X7_isOverdue hL0 hL1 hd1 hd2 hd3) m_X7_36 (by assumption) (by omega) dX7_number_45 rfl rfl (by decide) (by decide) (Nat.le_of_ble_eq_true rfl) (fun br45 => ?_) (fun br45 => ?_)
    · refine r_ifeq_f (q := 55) (q2 := 51) C (by decide) (by omega) dX7_number_48 (by decide) rfl ?_
      refine r_iconst (q := 52) C dX7_number_51 rfl ?_
      refine r_goto (q := 56) C dX7_number_52 (by decide) ?_
      exact r_iret C hr dX7_number_56 (by decide) (by decide) ⟨by rw [if_neg (by omega), if_neg (by omega), if_neg (by omega), if_pos br45], rfl, rfl⟩
    · refine r_ifeq_t (q := 55) C (by decide) (by omega) dX7_number_48 (by decide) ?_
      refine r_iconst (q := 56) C dX7_number_55 rfl ?_
      exact r_iret C hr dX7_number_56 (by decide) (by decide) ⟨by rw [if_neg (by omega), if_neg (by omega), if_neg (by omega), if_neg br45], rfl, rfl⟩
set_option maxRecDepth 20000 in
set_option maxHeartbeats 8000000 in
theorem c_X7_becomeLike {T : oT} {σ : oM} {aC lC : Nat} (hL0 : T.2.1 aC = (7, 0)) (hL1 : aC < T.1) (hS0 : T.2.1 lC = (7, 0)) (hS1 : lC < T.1) (hne : aC ≠ lC) : MS yX7_becomeLike cX7_becomeLike 2 none 0 0 0 0 [og aC, og lC] T σ (oPv (fun σ2 => σ2 = o_lnc σ aC (σ lC 0) (σ lC 1) (σ lC 2) (σ lC 3) (σ lC 4) (σ lC 5) (σ lC 6) (σ lC 7)) T) := by
  refine o_met (by decide +kernel) (Nat.le_of_ble_eq_true rfl) (fun p l ee s m args below meth c G b C hr hn => ?_)
  have C : oCx p s m args meth c G b RX7 cX7_becomeLike 2 := C
  show oW p l ee ({ frames := 0, cells := 0, slots := 0, locals := 0 } : Room) s m args below meth c G b 2 0 0 (MQ below (o_Qc G b (oPv (fun σ2 => σ2 = o_lnc σ aC (σ lC 0) (σ lC 1) (σ lC 2) (σ lC 3) (σ lC 4) (σ lC 5) (σ lC 6) (σ lC 7)) T)) args s 0 0 (fun q => b ≤ q)) T σ 0 [some (og aC), some (og lC)] []
  refine r_al0 (q := 1) C dX7_becomeLike_0 rfl ?_
  refine r_al1 (q := 2) C dX7_becomeLike_1 rfl ?_
  refine r_getI (q := 5) C f_X7_9 dX7_becomeLike_2 rfl rfl (by assumption) (by omega) ?_
  refine r_putI (q := 8) C fp_X7_9 dX7_becomeLike_5 rfl rfl (by assumption) (by omega) ?_
  refine r_al0 (q := 9) C dX7_becomeLike_8 rfl ?_
  refine r_al1 (q := 10) C dX7_becomeLike_9 rfl ?_
  refine r_getI (q := 13) C f_X7_15 dX7_becomeLike_10 rfl rfl (by assumption) (by omega) ?_
  rw [show o_up σ aC 0 (σ lC 0) lC 1 = σ lC 1 by rw [o_up_ne (Ne.symm hne)]]
  refine r_putI (q := 16) C fp_X7_15 dX7_becomeLike_13 rfl rfl (by assumption) (by omega) ?_
  refine r_al0 (q := 17) C dX7_becomeLike_16 rfl ?_
  refine r_al1 (q := 18) C dX7_becomeLike_17 rfl ?_
  refine r_getI (q := 21) C f_X7_18 dX7_becomeLike_18 rfl rfl (by assumption) (by omega) ?_
  rw [show o_up (o_up σ aC 0 (σ lC 0)) aC 1 (σ lC 1) lC 2 = σ lC 2 by rw [o_up_ne (Ne.symm hne), o_up_ne (Ne.symm hne)]]
  refine r_putI (q := 24) C fp_X7_18 dX7_becomeLike_21 rfl rfl (by assumption) (by omega) ?_
  refine r_al0 (q := 25) C dX7_becomeLike_24 rfl ?_
  refine r_al1 (q := 26) C dX7_becomeLike_25 rfl ?_
  refine r_getI (q := 29) C f_X7_21 dX7_becomeLike_26 rfl rfl (by assumption) (by omega) ?_
  rw [show o_up (o_up (o_up σ aC 0 (σ lC 0)) aC 1 (σ lC 1)) aC 2 (σ lC 2) lC 3 = σ lC 3 by rw [o_up_ne (Ne.symm hne), o_up_ne (Ne.symm hne), o_up_ne (Ne.symm hne)]]
  refine r_putI (q := 32) C fp_X7_21 dX7_becomeLike_29 rfl rfl (by assumption) (by omega) ?_
  refine r_al0 (q := 33) C dX7_becomeLike_32 rfl ?_
  refine r_al1 (q := 34) C dX7_becomeLike_33 rfl ?_
  refine r_getI (q := 37) C f_X7_24 dX7_becomeLike_34 rfl rfl (by assumption) (by omega) ?_
  rw [show o_up (o_up (o_up (o_up σ aC 0 (σ lC 0)) aC 1 (σ lC 1)) aC 2 (σ lC 2)) aC 3 (σ lC 3) lC 4 = σ lC 4 by rw [o_up_ne (Ne.symm hne), o_up_ne (Ne.symm hne), o_up_ne (Ne.symm hne), o_up_ne (Ne.symm hne)]]
  refine r_putI (q := 40) C fp_X7_24 dX7_becomeLike_37 rfl rfl (by assumption) (by omega) ?_
  refine r_al0 (q := 41) C dX7_becomeLike_40 rfl ?_
  refine r_al1 (q := 42) C dX7_becomeLike_41 rfl ?_
  refine r_getI (q := 45) C f_X7_27 dX7_becomeLike_42 rfl rfl (by assumption) (by omega) ?_
  rw [show o_up (o_up (o_up (o_up (o_up σ aC 0 (σ lC 0)) aC 1 (σ lC 1)) aC 2 (σ lC 2)) aC 3 (σ lC 3)) aC 4 (σ lC 4) lC 5 = σ lC 5 by rw [o_up_ne (Ne.symm hne), o_up_ne (Ne.symm hne), o_up_ne (Ne.symm hne), o_up_ne (Ne.symm hne), o_up_ne (Ne.symm hne)]]
  refine r_putI (q := 48) C fp_X7_27 dX7_becomeLike_45 rfl rfl (by assumption) (by omega) ?_
  refine r_al0 (q := 49) C dX7_becomeLike_48 rfl ?_
  refine r_al1 (q := 50) C dX7_becomeLike_49 rfl ?_
  refine r_getI (q := 53) C f_X7_30 dX7_becomeLike_50 rfl rfl (by assumption) (by omega) ?_
  rw [show o_up (o_up (o_up (o_up (o_up (o_up σ aC 0 (σ lC 0)) aC 1 (σ lC 1)) aC 2 (σ lC 2)) aC 3 (σ lC 3)) aC 4 (σ lC 4)) aC 5 (σ lC 5) lC 6 = σ lC 6 by rw [o_up_ne (Ne.symm hne), o_up_ne (Ne.symm hne), o_up_ne (Ne.symm hne), o_up_ne (Ne.symm hne), o_up_ne (Ne.symm hne), o_up_ne (Ne.symm hne)]]
  refine r_putI (q := 56) C fp_X7_30 dX7_becomeLike_53 rfl rfl (by assumption) (by omega) ?_
  refine r_al0 (q := 57) C dX7_becomeLike_56 rfl ?_
  refine r_al1 (q := 58) C dX7_becomeLike_57 rfl ?_
  refine r_getI (q := 61) C f_X7_33 dX7_becomeLike_58 rfl rfl (by assumption) (by omega) ?_
  rw [show o_up (o_up (o_up (o_up (o_up (o_up (o_up σ aC 0 (σ lC 0)) aC 1 (σ lC 1)) aC 2 (σ lC 2)) aC 3 (σ lC 3)) aC 4 (σ lC 4)) aC 5 (σ lC 5)) aC 6 (σ lC 6) lC 7 = σ lC 7 by rw [o_up_ne (Ne.symm hne), o_up_ne (Ne.symm hne), o_up_ne (Ne.symm hne), o_up_ne (Ne.symm hne), o_up_ne (Ne.symm hne), o_up_ne (Ne.symm hne), o_up_ne (Ne.symm hne)]]
  refine r_putI (q := 64) C fp_X7_33 dX7_becomeLike_61 rfl rfl (by assumption) (by omega) ?_
  exact r_vret C hr dX7_becomeLike_64 (by decide) (by decide) ⟨rfl, rfl, rfl⟩
set_option maxRecDepth 20000 in
set_option maxHeartbeats 8000000 in
theorem c_X6_hasWork {T : oT} {σ : oM} {hC Nn : Nat} (hH : oHd T hC) {wx : Int} (hNn : σ hC 0 = (Nn : Int)) (hN6 : Nn ≤ 6) (hw : o_r wx) (hwk : ∀ jx, jx < Nn → o_r (σ (hC + 2 + 13 * jx) 0)) : MS yX6_hasWork cX6_hasWork 3 (some FieldType.boolean) 0 0 0 0 [og hC, oi wx] T σ (oPb (∃ jx, jx < Nn ∧ σ (hC + 2 + 13 * jx) 0 = wx) T σ) := by
  have hHc := hH
  obtain ⟨hH0, hH1, hH2, hH3, hH4, hH6, hG1, hG80, hG81, hG82, hG83, hEs, hLs, hHT⟩ := hHc
  refine o_met (by decide +kernel) (Nat.le_of_ble_eq_true rfl) (fun p l ee s m args below meth c G b C hr hn => ?_)
  have C : oCx p s m args meth c G b RX6 cX6_hasWork 3 := C
  show oW p l ee ({ frames := 0, cells := 0, slots := 0, locals := 0 } : Room) s m args below meth c G b 3 0 0 (MQ below (o_Qc G b (oPb (∃ jx, jx < Nn ∧ σ (hC + 2 + 13 * jx) 0 = wx) T σ)) args s 0 0 (fun q => b ≤ q)) T σ 0 [some (og hC), some (oi wx), none] []
  have lp : ∀ (n : Nat) (jx : Nat), Nn - jx < n → (jx ≤ 6 ∧ ∀ ix, ix < jx → σ (hC + 2 + 13 * ix) 0 ≠ wx) → oW p l ee ({ frames := 0, cells := 0, slots := 0, locals := 0 } : Room) s m args below meth c G b 3 0 0 (MQ below (o_Qc G b (oPb (∃ jx, jx < Nn ∧ σ (hC + 2 + 13 * jx) 0 = wx) T σ)) args s 0 0 (fun q => b ≤ q)) T σ 2 [some (og hC), some (oi wx), some (oi ((jx : Nat) : Int))] [] := by
    intro n
    induction n with
    | zero =>
      intro jx hms
      exact absurd hms (Nat.not_lt_zero _)
    | succ n ih =>
      intro jx hms h1
      refine r_il2 (q := 3) C dX6_hasWork_2 rfl ?_
      refine r_al0 (q := 4) C dX6_hasWork_3 rfl ?_
      refine r_getI (q := 7) C f_X6_35 dX6_hasWork_4 rfl rfl (by assumption) (by omega) ?_
      refine r_icge (q := 31) (q2 := 10) C (by omega) (by omega) dX6_hasWork_7 (by decide) rfl (fun br7 => ?_) (fun br7 => ?_)
      · refine r_iconst (q := 32) C dX6_hasWork_31 rfl ?_
        exact r_zret C hr dX6_hasWork_32 (by decide) (by decide) (by decide) ⟨Or.inr ⟨fun ⟨ix, a1, a2⟩ => h1.2 ix (by omega) a2, rfl⟩, rfl, rfl⟩
      · refine r_al0 (q := 11) C dX6_hasWork_10 rfl ?_
        refine r_getR (q := 14) C f_X6_11 dX6_hasWork_11 rfl rfl (by assumption) (by assumption) (by omega) ?_
        refine r_il2 (q := 15) C dX6_hasWork_14 rfl ?_
        have hEj0 := (hEs (jx) (by omega)).1
        have hEd := (hEs (jx) (by omega)).2
        have hEj1 := hEd.1
        refine r_aald (q := 16) C (jx) dX6_hasWork_15 rfl (by assumption) (by omega) (by omega) (by omega) (by decide) (by assumption) rfl rfl (by decide) (by decide) ?_
        refine r_getI (q := 19) C f_X6_58 dX6_hasWork_16 rfl rfl (by assumption) (by omega) ?_
        refine r_il1 (q := 20) C dX6_hasWork_19 rfl ?_
        refine r_icne (q := 25) (q2 := 23) C (hwk jx (by omega)) hw dX6_hasWork_20 (by decide) rfl (fun br20 => ?_) (fun br20 => ?_)
        · refine r_iinc2 (q := 28) C dX6_hasWork_25 rfl (by decide) ?_
          refine r_goto (q := 2) C dX6_hasWork_28 (by decide) ?_
          exact ih (jx + 1) (by omega) ⟨by omega, fun ix hix => by
            rcases (show ix < jx ∨ ix = jx by omega) with hc | hc
            · exact h1.2 ix hc
            · rw [hc]; exact br20⟩
        · refine r_iconst (q := 24) C dX6_hasWork_23 rfl ?_
          exact r_zret C hr dX6_hasWork_24 (by decide) (by decide) (by decide) ⟨Or.inl ⟨⟨jx, by omega, br20⟩, rfl⟩, rfl, rfl⟩
  refine r_iconst (q := 1) C dX6_hasWork_0 rfl ?_
  refine r_is2 (q := 2) C dX6_hasWork_1 rfl (by decide) ?_
  exact lp _ 0 (Nat.lt_succ_self _) ⟨by omega, fun ix hix => absurd hix (Nat.not_lt_zero _)⟩
set_option maxRecDepth 20000 in
set_option maxHeartbeats 8000000 in
theorem c_X6_copiesOfModel {T : oT} {σ : oM} {hC Nn : Nat} (hH : oHd T hC) {wx : Int} (hNn : σ hC 0 = (Nn : Int)) (hN6 : Nn ≤ 6) (hw : o_r wx) (hwk : ∀ jx, jx < Nn → o_r (σ (hC + 2 + 13 * jx) 1)) : MS yX6_copiesOfModel cX6_copiesOfModel 4 (some FieldType.int) 0 0 0 0 [og hC, oi wx] T σ (oP1 (oi (sumF (fun jx => if σ (hC + 2 + 13 * jx) 1 = wx then 1 else 0) Nn)) T σ) := by
  have hHc := hH
  obtain ⟨hH0, hH1, hH2, hH3, hH4, hH6, hG1, hG80, hG81, hG82, hG83, hEs, hLs, hHT⟩ := hHc
  refine o_met (by decide +kernel) (Nat.le_of_ble_eq_true rfl) (fun p l ee s m args below meth c G b C hr hn => ?_)
  have C : oCx p s m args meth c G b RX6 cX6_copiesOfModel 4 := C
  show oW p l ee ({ frames := 0, cells := 0, slots := 0, locals := 0 } : Room) s m args below meth c G b 4 0 0 (MQ below (o_Qc G b (oP1 (oi (sumF (fun jx => if σ (hC + 2 + 13 * jx) 1 = wx then 1 else 0) Nn)) T σ)) args s 0 0 (fun q => b ≤ q)) T σ 0 [some (og hC), some (oi wx), none, none] []
  have lp : ∀ (n : Nat) (jx : Nat), Nn - jx < n → (jx ≤ Nn) → oW p l ee ({ frames := 0, cells := 0, slots := 0, locals := 0 } : Room) s m args below meth c G b 4 0 0 (MQ below (o_Qc G b (oP1 (oi (sumF (fun jx => if σ (hC + 2 + 13 * jx) 1 = wx then 1 else 0) Nn)) T σ)) args s 0 0 (fun q => b ≤ q)) T σ 4 [some (og hC), some (oi wx), some (oi (sumF (fun jx => if σ (hC + 2 + 13 * jx) 1 = wx then 1 else 0) jx)), some (oi ((jx : Nat) : Int))] [] := by
    intro n
    induction n with
    | zero =>
      intro jx hms
      exact absurd hms (Nat.not_lt_zero _)
    | succ n ih =>
      intro jx hms h1
      refine r_il3 (q := 5) C dX6_copiesOfModel_4 rfl ?_
      refine r_al0 (q := 6) C dX6_copiesOfModel_5 rfl ?_
      refine r_getI (q := 9) C f_X6_35 dX6_copiesOfModel_6 rfl rfl (by assumption) (by omega) ?_
      refine r_icge (q := 39) (q2 := 12) C (by omega) (by omega) dX6_copiesOfModel_9 (by decide) rfl (fun br9 => ?_) (fun br9 => ?_)
      · refine r_il2 (q := 40) C dX6_copiesOfModel_39 rfl ?_
        obtain rfl : jx = Nn := by omega
        exact r_iret C hr dX6_copiesOfModel_40 (by decide) (by decide) ⟨rfl, rfl, rfl⟩
      · refine r_il2 (q := 13) C dX6_copiesOfModel_12 rfl ?_
        refine r_al0 (q := 14) C dX6_copiesOfModel_13 rfl ?_
        refine r_getR (q := 17) C f_X6_11 dX6_copiesOfModel_14 rfl rfl (by assumption) (by assumption) (by omega) ?_
        refine r_il3 (q := 18) C dX6_copiesOfModel_17 rfl ?_
        have hEj0 := (hEs (jx) (by omega)).1
        have hEd := (hEs (jx) (by omega)).2
        have hEj1 := hEd.1
        refine r_aald (q := 19) C (jx) dX6_copiesOfModel_18 rfl (by assumption) (by omega) (by omega) (by omega) (by decide) (by assumption) rfl rfl (by decide) (by decide) ?_
        refine r_getI (q := 22) C f_X6_69 dX6_copiesOfModel_19 rfl rfl (by assumption) (by omega) ?_
        refine r_il1 (q := 23) C dX6_copiesOfModel_22 rfl ?_
        refine r_icne (q := 30) (q2 := 26) C (hwk jx (by omega)) hw dX6_copiesOfModel_23 (by decide) rfl (fun br23 => ?_) (fun br23 => ?_)
        · refine r_iconst (q := 31) C dX6_copiesOfModel_30 rfl ?_
          refine r_iadd (q := 32) C dX6_copiesOfModel_31 rfl ?_
          refine r_is2 (q := 33) C dX6_copiesOfModel_32 rfl (by decide) ?_
          refine r_iinc3 (q := 36) C dX6_copiesOfModel_33 rfl (by decide) ?_
          refine r_goto (q := 4) C dX6_copiesOfModel_36 (by decide) ?_
          have hs1 : sumF (fun jx => if σ (hC + 2 + 13 * jx) 1 = wx then 1 else 0) jx + 0 = sumF (fun jx => if σ (hC + 2 + 13 * jx) 1 = wx then 1 else 0) (jx + 1) := by
            rw [show sumF (fun jx => if σ (hC + 2 + 13 * jx) 1 = wx then 1 else 0) (jx + 1) = sumF (fun jx => if σ (hC + 2 + 13 * jx) 1 = wx then 1 else 0) jx + ((fun jx => if σ (hC + 2 + 13 * jx) 1 = wx then 1 else 0) jx) from rfl]
            simp only [if_neg br23]
          rw [hs1]
          exact ih (jx + 1) (by omega) (by omega)
        · refine r_iconst (q := 27) C dX6_copiesOfModel_26 rfl ?_
          refine r_goto (q := 31) C dX6_copiesOfModel_27 (by decide) ?_
          refine r_iadd (q := 32) C dX6_copiesOfModel_31 rfl ?_
          refine r_is2 (q := 33) C dX6_copiesOfModel_32 rfl (by decide) ?_
          refine r_iinc3 (q := 36) C dX6_copiesOfModel_33 rfl (by decide) ?_
          refine r_goto (q := 4) C dX6_copiesOfModel_36 (by decide) ?_
          have hs1 : sumF (fun jx => if σ (hC + 2 + 13 * jx) 1 = wx then 1 else 0) jx + 1 = sumF (fun jx => if σ (hC + 2 + 13 * jx) 1 = wx then 1 else 0) (jx + 1) := by
            rw [show sumF (fun jx => if σ (hC + 2 + 13 * jx) 1 = wx then 1 else 0) (jx + 1) = sumF (fun jx => if σ (hC + 2 + 13 * jx) 1 = wx then 1 else 0) jx + ((fun jx => if σ (hC + 2 + 13 * jx) 1 = wx then 1 else 0) jx) from rfl]
            simp only [if_pos br23]
          rw [hs1]
          exact ih (jx + 1) (by omega) (by omega)
  refine r_iconst (q := 1) C dX6_copiesOfModel_0 rfl ?_
  refine r_is2 (q := 2) C dX6_copiesOfModel_1 rfl (by decide) ?_
  refine r_iconst (q := 3) C dX6_copiesOfModel_2 rfl ?_
  refine r_is3 (q := 4) C dX6_copiesOfModel_3 rfl (by decide) ?_
  exact lp _ 0 (Nat.lt_succ_self _) (by omega)
set_option maxRecDepth 20000 in
set_option maxHeartbeats 8000000 in
theorem c_X6_desks {T : oT} {σ : oM} {hC ix : Nat} (hH : oHd T hC) (hi : ix < 6) (hp : 0 ≤ σ (hC + 82) ix ∧ σ (hC + 82) ix ≤ 1000) : MS yX6_desks cX6_desks 2 (some FieldType.int) 0 0 0 0 [og hC, oi ((ix : Nat) : Int)] T σ (oP1 (oi (deskF (σ (hC + 82)) ix)) T σ) := by
  have hHc := hH
  obtain ⟨hH0, hH1, hH2, hH3, hH4, hH6, hG1, hG80, hG81, hG82, hG83, hEs, hLs, hHT⟩ := hHc
  refine o_met (by decide +kernel) (Nat.le_of_ble_eq_true rfl) (fun p l ee s m args below meth c G b C hr hn => ?_)
  have C : oCx p s m args meth c G b RX6 cX6_desks 2 := C
  show oW p l ee ({ frames := 0, cells := 0, slots := 0, locals := 0 } : Room) s m args below meth c G b 2 0 0 (MQ below (o_Qc G b (oP1 (oi (deskF (σ (hC + 82)) ix)) T σ)) args s 0 0 (fun q => b ≤ q)) T σ 0 [some (og hC), some (oi ((ix : Nat) : Int))] []
  refine r_il1 (q := 1) C dX6_desks_0 rfl ?_
  refine r_iconst (q := 2) C dX6_desks_1 rfl ?_
  refine r_icge (q := 18) (q2 := 5) C (by omega) (by omega) dX6_desks_2 (by decide) rfl (fun br2 => ?_) (fun br2 => ?_)
  · refine r_al0 (q := 19) C dX6_desks_18 rfl ?_
    refine r_getR (q := 22) C f_X6_25 dX6_desks_19 rfl rfl (by assumption) (by assumption) (by omega) ?_
    refine r_il1 (q := 23) C dX6_desks_22 rfl ?_
    refine r_iald (q := 24) C (ix) dX6_desks_23 rfl (by assumption) (by omega) (by omega) (by omega) (by decide) ?_
    exact r_iret C hr dX6_desks_24 (by decide) (by decide) ⟨by rw [deskF, if_neg (by omega)], rfl, rfl⟩
  · refine r_al0 (q := 6) C dX6_desks_5 rfl ?_
    refine r_getR (q := 9) C f_X6_25 dX6_desks_6 rfl rfl (by assumption) (by assumption) (by omega) ?_
    refine r_il1 (q := 10) C dX6_desks_9 rfl ?_
    refine r_iald (q := 11) C (ix) dX6_desks_10 rfl (by assumption) (by omega) (by omega) (by omega) (by decide) ?_
    refine r_iconst (q := 12) C dX6_desks_11 rfl ?_
    refine r_iadd (q := 13) C dX6_desks_12 rfl ?_
    refine r_iconst (q := 14) C dX6_desks_13 rfl ?_
    refine r_idiv (q := 15) (z := ((σ (hC + 82) ix + 1) / 2)) C (by omega) (by omega) rfl dX6_desks_14 rfl ?_
    refine r_goto (q := 24) C dX6_desks_15 (by decide) ?_
    exact r_iret C hr dX6_desks_24 (by decide) (by decide) ⟨by rw [deskF, if_pos (by omega)], rfl, rfl⟩
set_option maxRecDepth 20000 in
set_option maxHeartbeats 8000000 in
theorem c_X6_instrumentsWithPlayers {T : oT} {σ : oM} {hC : Nat} (hH : oHd T hC) (hp : ∀ jx, jx < 6 → o_r (σ (hC + 82) jx)) : MS yX6_instrumentsWithPlayers cX6_instrumentsWithPlayers 3 (some FieldType.int) 0 0 0 0 [og hC] T σ (oP1 (oi (sumF (fun jx => if 0 < σ (hC + 82) jx then 1 else 0) 6)) T σ) := by
  have hHc := hH
  obtain ⟨hH0, hH1, hH2, hH3, hH4, hH6, hG1, hG80, hG81, hG82, hG83, hEs, hLs, hHT⟩ := hHc
  refine o_met (by decide +kernel) (Nat.le_of_ble_eq_true rfl) (fun p l ee s m args below meth c G b C hr hn => ?_)
  have C : oCx p s m args meth c G b RX6 cX6_instrumentsWithPlayers 3 := C
  show oW p l ee ({ frames := 0, cells := 0, slots := 0, locals := 0 } : Room) s m args below meth c G b 3 0 0 (MQ below (o_Qc G b (oP1 (oi (sumF (fun jx => if 0 < σ (hC + 82) jx then 1 else 0) 6)) T σ)) args s 0 0 (fun q => b ≤ q)) T σ 0 [some (og hC), none, none] []
  have lp : ∀ (n : Nat) (jx : Nat), 6 - jx < n → (jx ≤ 6) → oW p l ee ({ frames := 0, cells := 0, slots := 0, locals := 0 } : Room) s m args below meth c G b 3 0 0 (MQ below (o_Qc G b (oP1 (oi (sumF (fun jx => if 0 < σ (hC + 82) jx then 1 else 0) 6)) T σ)) args s 0 0 (fun q => b ≤ q)) T σ 4 [some (og hC), some (oi (sumF (fun jx => if 0 < σ (hC + 82) jx then 1 else 0) jx)), some (oi ((jx : Nat) : Int))] [] := by
    intro n
    induction n with
    | zero =>
      intro jx hms
      exact absurd hms (Nat.not_lt_zero _)
    | succ n ih =>
      intro jx hms h1
      refine r_il2 (q := 5) C dX6_instrumentsWithPlayers_4 rfl ?_
      refine r_bipush (q := 7) C dX6_instrumentsWithPlayers_5 (by decide) rfl ?_
      refine r_icge (q := 33) (q2 := 10) C (by omega) (by omega) dX6_instrumentsWithPlayers_7 (by decide) rfl (fun br7 => ?_) (fun br7 => ?_)
      · refine r_il1 (q := 34) C dX6_instrumentsWithPlayers_33 rfl ?_
        obtain rfl : jx = 6 := by omega
        exact r_iret C hr dX6_instrumentsWithPlayers_34 (by decide) (by decide) ⟨rfl, rfl, rfl⟩
      · refine r_il1 (q := 11) C dX6_instrumentsWithPlayers_10 rfl ?_
        refine r_al0 (q := 12) C dX6_instrumentsWithPlayers_11 rfl ?_
        refine r_getR (q := 15) C f_X6_25 dX6_instrumentsWithPlayers_12 rfl rfl (by assumption) (by assumption) (by omega) ?_
        refine r_il2 (q := 16) C dX6_instrumentsWithPlayers_15 rfl ?_
        refine r_iald (q := 17) C (jx) dX6_instrumentsWithPlayers_16 rfl (by assumption) (by omega) (by omega) (by omega) (by decide) ?_
        refine r_ifle (q := 24) (q2 := 20) C (hp jx (by omega)) dX6_instrumentsWithPlayers_17 (by decide) rfl (fun br17 => ?_) (fun br17 => ?_)
        · refine r_iconst (q := 25) C dX6_instrumentsWithPlayers_24 rfl ?_
          refine r_iadd (q := 26) C dX6_instrumentsWithPlayers_25 rfl ?_
          refine r_is1 (q := 27) C dX6_instrumentsWithPlayers_26 rfl (by decide) ?_
          refine r_iinc2 (q := 30) C dX6_instrumentsWithPlayers_27 rfl (by decide) ?_
          refine r_goto (q := 4) C dX6_instrumentsWithPlayers_30 (by decide) ?_
          have hs1 : sumF (fun jx => if 0 < σ (hC + 82) jx then 1 else 0) jx + 0 = sumF (fun jx => if 0 < σ (hC + 82) jx then 1 else 0) (jx + 1) := by
            rw [show sumF (fun jx => if 0 < σ (hC + 82) jx then 1 else 0) (jx + 1) = sumF (fun jx => if 0 < σ (hC + 82) jx then 1 else 0) jx + ((fun jx => if 0 < σ (hC + 82) jx then 1 else 0) jx) from rfl]
            simp only [if_neg (show ¬ 0 < σ (hC + 82) jx by omega)]
          rw [hs1]
          exact ih (jx + 1) (by omega) (by omega)
        · refine r_iconst (q := 21) C dX6_instrumentsWithPlayers_20 rfl ?_
          refine r_goto (q := 25) C dX6_instrumentsWithPlayers_21 (by decide) ?_
          refine r_iadd (q := 26) C dX6_instrumentsWithPlayers_25 rfl ?_
          refine r_is1 (q := 27) C dX6_instrumentsWithPlayers_26 rfl (by decide) ?_
          refine r_iinc2 (q := 30) C dX6_instrumentsWithPlayers_27 rfl (by decide) ?_
          refine r_goto (q := 4) C dX6_instrumentsWithPlayers_30 (by decide) ?_
          have hs1 : sumF (fun jx => if 0 < σ (hC + 82) jx then 1 else 0) jx + 1 = sumF (fun jx => if 0 < σ (hC + 82) jx then 1 else 0) (jx + 1) := by
            rw [show sumF (fun jx => if 0 < σ (hC + 82) jx then 1 else 0) (jx + 1) = sumF (fun jx => if 0 < σ (hC + 82) jx then 1 else 0) jx + ((fun jx => if 0 < σ (hC + 82) jx then 1 else 0) jx) from rfl]
            simp only [if_pos br17]
          rw [hs1]
          exact ih (jx + 1) (by omega) (by omega)
  refine r_iconst (q := 1) C dX6_instrumentsWithPlayers_0 rfl ?_
  refine r_is1 (q := 2) C dX6_instrumentsWithPlayers_1 rfl (by decide) ?_
  refine r_iconst (q := 3) C dX6_instrumentsWithPlayers_2 rfl ?_
  refine r_is2 (q := 4) C dX6_instrumentsWithPlayers_3 rfl (by decide) ?_
  exact lp _ 0 (Nat.lt_succ_self _) (by omega)
set_option maxRecDepth 20000 in
set_option maxHeartbeats 8000000 in
theorem c_X6_hasAllNeeded {T : oT} {σ : oM} {hC eN : Nat} (hH : oHd T hC) (heN : eN < 6) (hp : ∀ jx, jx < 6 → 0 ≤ σ (hC + 82) jx ∧ σ (hC + 82) jx ≤ 1000) (hcr : ∀ jx, jx < 6 → o_r (σ (hC + 2 + 13 * eN + 10) jx)) : MS yX6_hasAllNeeded cX6_hasAllNeeded 3 (some FieldType.boolean) 1 0 0 21 [og hC, oi ((eN : Nat) : Int)] T σ (oPb (∀ jx, jx < 6 → deskF (σ (hC + 82)) jx ≤ σ (hC + 2 + 13 * eN + 10) jx) T σ) := by
  have hHc := hH
  obtain ⟨hH0, hH1, hH2, hH3, hH4, hH6, hG1, hG80, hG81, hG82, hG83, hEs, hLs, hHT⟩ := hHc
  have hEj0 := (hEs (eN) (by omega)).1
  have hEd := (hEs (eN) (by omega)).2
  have hEj1 := hEd.1
  obtain ⟨-, -, -, -, -, -, hE8, -, -, -, -, -, -, -, -, hA10, -⟩ := hEd
  have hdr : ∀ jx, jx < 6 → o_r (deskF (σ (hC + 82)) jx) := fun jx hj => by
    have h0 := hp jx hj
    unfold deskF
    split <;> omega
  refine o_met (by decide +kernel) (Nat.le_of_ble_eq_true rfl) (fun p l ee s m args below meth c G b C hr hn => ?_)
  have C : oCx p s m args meth c G b RX6 cX6_hasAllNeeded 3 := C
  show oW p l ee ({ frames := 1, cells := 0, slots := 0, locals := 21 } : Room) s m args below meth c G b 3 0 0 (MQ below (o_Qc G b (oPb (∀ jx, jx < 6 → deskF (σ (hC + 82)) jx ≤ σ (hC + 2 + 13 * eN + 10) jx) T σ)) args s 0 0 (fun q => b ≤ q)) T σ 0 [some (og hC), some (oi ((eN : Nat) : Int)), none] []
  have lp : ∀ (n : Nat) (jx : Nat), 6 - jx < n → (jx ≤ 6 ∧ ∀ ix, ix < jx → deskF (σ (hC + 82)) ix ≤ σ (hC + 2 + 13 * eN + 10) ix) → oW p l ee ({ frames := 1, cells := 0, slots := 0, locals := 21 } : Room) s m args below meth c G b 3 0 0 (MQ below (o_Qc G b (oPb (∀ jx, jx < 6 → deskF (σ (hC + 82)) jx ≤ σ (hC + 2 + 13 * eN + 10) jx) T σ)) args s 0 0 (fun q => b ≤ q)) T σ 2 [some (og hC), some (oi ((eN : Nat) : Int)), some (oi ((jx : Nat) : Int))] [] := by
    intro n
    induction n with
    | zero =>
      intro jx hms
      exact absurd hms (Nat.not_lt_zero _)
    | succ n ih =>
      intro jx hms h1
      refine r_il2 (q := 3) C dX6_hasAllNeeded_2 rfl ?_
      refine r_bipush (q := 5) C dX6_hasAllNeeded_3 (by decide) rfl ?_
      refine r_icge (q := 35) (q2 := 8) C (by omega) (by omega) dX6_hasAllNeeded_5 (by decide) rfl (fun br5 => ?_) (fun br5 => ?_)
      · refine r_iconst (q := 36) C dX6_hasAllNeeded_35 rfl ?_
        exact r_zret C hr dX6_hasAllNeeded_36 (by decide) (by decide) (by decide) ⟨Or.inl ⟨fun ix hix => h1.2 ix (by omega), rfl⟩, rfl, rfl⟩
      · refine r_al0 (q := 9) C dX6_hasAllNeeded_8 rfl ?_
        refine r_il2 (q := 10) C dX6_hasAllNeeded_9 rfl ?_
        refine r_callV1 (q := 13) C (c_X6_desks hH (by omega) (hp jx (by omega))) m_X6_72 (by assumption) (by omega) dX6_hasAllNeeded_10 rfl rfl (by decide) (by decide) (Nat.le_of_ble_eq_true rfl) ?_
        refine r_al0 (q := 14) C dX6_hasAllNeeded_13 rfl ?_
        refine r_getR (q := 17) C f_X6_11 dX6_hasAllNeeded_14 rfl rfl (by assumption) (by assumption) (by omega) ?_
        refine r_il1 (q := 18) C dX6_hasAllNeeded_17 rfl ?_
        refine r_aald (q := 19) C (eN) dX6_hasAllNeeded_18 rfl (by assumption) (by omega) (by omega) (by omega) (by decide) (by assumption) rfl rfl (by decide) (by decide) ?_
        refine r_getR (q := 22) C f_X6_76 dX6_hasAllNeeded_19 rfl rfl (by assumption) (by assumption) (by omega) ?_
        refine r_il2 (q := 23) C dX6_hasAllNeeded_22 rfl ?_
        refine r_iald (q := 24) C (jx) dX6_hasAllNeeded_23 rfl (by assumption) (by omega) (by omega) (by omega) (by decide) ?_
        refine r_icle (q := 29) (q2 := 27) C (hdr jx (by omega)) (hcr jx (by omega)) dX6_hasAllNeeded_24 (by decide) rfl (fun br24 => ?_) (fun br24 => ?_)
        · refine r_iinc2 (q := 32) C dX6_hasAllNeeded_29 rfl (by decide) ?_
          refine r_goto (q := 2) C dX6_hasAllNeeded_32 (by decide) ?_
          exact ih (jx + 1) (by omega) ⟨by omega, fun ix hix => by
            rcases (show ix < jx ∨ ix = jx by omega) with hc | hc
            · exact h1.2 ix hc
            · rw [hc]; exact br24⟩
        · refine r_iconst (q := 28) C dX6_hasAllNeeded_27 rfl ?_
          exact r_zret C hr dX6_hasAllNeeded_28 (by decide) (by decide) (by decide) ⟨Or.inr ⟨fun hall => absurd (hall jx (by omega)) (by omega), rfl⟩, rfl, rfl⟩
  refine r_iconst (q := 1) C dX6_hasAllNeeded_0 rfl ?_
  refine r_is2 (q := 2) C dX6_hasAllNeeded_1 rfl (by decide) ?_
  exact lp _ 0 (Nat.lt_succ_self _) ⟨by omega, fun ix hix => absurd hix (Nat.not_lt_zero _)⟩
set_option maxRecDepth 20000 in
set_option maxHeartbeats 8000000 in
theorem c_X6_addLoan {T : oT} {σ : oM} {hC Mn : Nat} (hH : oHd T hC) {eN ix : Nat} {bo cx dx : Int} (hMn : σ hC 5 = (Mn : Int)) (hM20 : Mn < 20) (heN : eN < 6) (hi : ix < 6) : MS yX6_addLoan cX6_addLoan 8 (some FieldType.int) 0 0 0 0 [og hC, oi bo, oi ((eN : Nat) : Int), oi ((ix : Nat) : Int), oi cx, oi dx] T σ (oPs (fun zx σ2 => zx = (Mn : Int) ∧ σ2 = o_lend σ hC (hC + 2 + 13 * eN) Mn ix bo (eN : Int) (ix : Int) cx dx) T) := by
  have hHc := hH
  obtain ⟨hH0, hH1, hH2, hH3, hH4, hH6, hG1, hG80, hG81, hG82, hG83, hEs, hLs, hHT⟩ := hHc
  refine o_met (by decide +kernel) (Nat.le_of_ble_eq_true rfl) (fun p l ee s m args below meth c G b C hr hn => ?_)
  have C : oCx p s m args meth c G b RX6 cX6_addLoan 8 := C
  show oW p l ee ({ frames := 0, cells := 0, slots := 0, locals := 0 } : Room) s m args below meth c G b 8 0 0 (MQ below (o_Qc G b (oPs (fun zx σ2 => zx = (Mn : Int) ∧ σ2 = o_lend σ hC (hC + 2 + 13 * eN) Mn ix bo (eN : Int) (ix : Int) cx dx) T)) args s 0 0 (fun q => b ≤ q)) T σ 0 [some (og hC), some (oi bo), some (oi ((eN : Nat) : Int)), some (oi ((ix : Nat) : Int)), some (oi cx), some (oi dx), none, none] []
  refine r_al0 (q := 1) C dX6_addLoan_0 rfl ?_
  refine r_getI (q := 4) C f_X6_49 dX6_addLoan_1 rfl rfl (by assumption) (by omega) ?_
  rw [hMn]
  refine r_is6 (q := 6) C dX6_addLoan_4 rfl (by decide) ?_
  refine r_al0 (q := 7) C dX6_addLoan_6 rfl ?_
  refine r_getR (q := 10) C f_X6_30 dX6_addLoan_7 rfl rfl (by assumption) (by assumption) (by omega) ?_
  refine r_il6 (q := 12) C dX6_addLoan_10 rfl ?_
  have hLj0 := (hLs (Mn) (by omega)).1
  have hLj1 := (hLs (Mn) (by omega)).2
  refine r_aald (q := 13) C (Mn) dX6_addLoan_12 rfl (by assumption) (by omega) (by omega) (by omega) (by decide) (by assumption) rfl rfl (by decide) (by decide) ?_
  refine r_as7 (q := 15) C dX6_addLoan_13 rfl (by decide) ?_
  refine r_al7 (q := 17) C dX6_addLoan_15 rfl ?_
  refine r_il1 (q := 18) C dX6_addLoan_17 rfl ?_
  refine r_putI (q := 21) C fp_X6_83 dX6_addLoan_18 rfl rfl (by assumption) (by omega) ?_
  refine r_al7 (q := 23) C dX6_addLoan_21 rfl ?_
  refine r_il2 (q := 24) C dX6_addLoan_23 rfl ?_
  refine r_putI (q := 27) C fp_X6_86 dX6_addLoan_24 rfl rfl (by assumption) (by omega) ?_
  refine r_al7 (q := 29) C dX6_addLoan_27 rfl ?_
  refine r_il3 (q := 30) C dX6_addLoan_29 rfl ?_
  refine r_putI (q := 33) C fp_X6_89 dX6_addLoan_30 rfl rfl (by assumption) (by omega) ?_
  refine r_al7 (q := 35) C dX6_addLoan_33 rfl ?_
  refine r_il4 (q := 37) C dX6_addLoan_35 rfl ?_
  refine r_putI (q := 40) C fp_X6_92 dX6_addLoan_37 rfl rfl (by assumption) (by omega) ?_
  refine r_al7 (q := 42) C dX6_addLoan_40 rfl ?_
  refine r_il4 (q := 44) C dX6_addLoan_42 rfl ?_
  refine r_putI (q := 47) C fp_X6_95 dX6_addLoan_44 rfl rfl (by assumption) (by omega) ?_
  refine r_al7 (q := 49) C dX6_addLoan_47 rfl ?_
  refine r_iconst (q := 50) C dX6_addLoan_49 rfl ?_
  refine r_putI (q := 53) C fp_X6_98 dX6_addLoan_50 rfl rfl (by assumption) (by omega) ?_
  refine r_al7 (q := 55) C dX6_addLoan_53 rfl ?_
  refine r_al0 (q := 56) C dX6_addLoan_55 rfl ?_
  refine r_getI (q := 59) C f_X6_55 dX6_addLoan_56 rfl rfl (by assumption) (by omega) ?_
  refine r_il5 (q := 61) C dX6_addLoan_59 rfl ?_
  refine r_iadd (q := 62) C dX6_addLoan_61 rfl ?_
  rw [show o_up (o_up (o_up (o_up (o_up (o_up σ (hC + 84 + Mn) 0 bo) (hC + 84 + Mn) 1 (eN : Int)) (hC + 84 + Mn) 2 (ix : Int)) (hC + 84 + Mn) 3 cx) (hC + 84 + Mn) 4 cx) (hC + 84 + Mn) 5 0 hC 7 = σ hC 7 by rw [o_up_ne (by omega), o_up_ne (by omega), o_up_ne (by omega), o_up_ne (by omega), o_up_ne (by omega), o_up_ne (by omega)]]
  refine r_putI (q := 65) C fp_X6_101 dX6_addLoan_62 rfl rfl (by assumption) (by omega) ?_
  refine r_al7 (q := 67) C dX6_addLoan_65 rfl ?_
  refine r_iconst (q := 68) C dX6_addLoan_67 rfl ?_
  refine r_putI (q := 71) C fp_X6_104 dX6_addLoan_68 rfl rfl (by assumption) (by omega) ?_
  rw [show o_up (o_up (o_up (o_up (o_up (o_up (o_up (o_up σ (hC + 84 + Mn) 0 bo) (hC + 84 + Mn) 1 (eN : Int)) (hC + 84 + Mn) 2 (ix : Int)) (hC + 84 + Mn) 3 cx) (hC + 84 + Mn) 4 cx) (hC + 84 + Mn) 5 0) (hC + 84 + Mn) 6 (σ hC 7 + dx)) (hC + 84 + Mn) 7 0 = o_lnc σ (hC + 84 + Mn) bo (eN : Int) (ix : Int) cx cx 0 (σ hC 7 + dx) 0 from rfl]
  refine r_al0 (q := 72) C dX6_addLoan_71 rfl ?_
  refine r_dup (q := 73) C dX6_addLoan_72 rfl ?_
  refine r_getI (q := 76) C f_X6_49 dX6_addLoan_73 rfl rfl (by assumption) (by omega) ?_
  refine r_iconst (q := 77) C dX6_addLoan_76 rfl ?_
  refine r_iadd (q := 78) C dX6_addLoan_77 rfl ?_
  rw [show o_lnc σ (hC + 84 + Mn) bo (eN : Int) (ix : Int) cx cx 0 (σ hC 7 + dx) 0 hC 5 = (Mn : Int) by rw [o_lnc_ne (by omega)]; exact hMn]
  refine r_putI (q := 81) C fp_X6_49 dX6_addLoan_78 rfl rfl (by assumption) (by omega) ?_
  refine r_al0 (q := 82) C dX6_addLoan_81 rfl ?_
  refine r_getR (q := 85) C f_X6_11 dX6_addLoan_82 rfl rfl (by assumption) (by assumption) (by omega) ?_
  refine r_il2 (q := 86) C dX6_addLoan_85 rfl ?_
  have hEj0 := (hEs (eN) (by omega)).1
  have hEd := (hEs (eN) (by omega)).2
  have hEj1 := hEd.1
  obtain ⟨-, -, -, -, -, -, hE8, hE9, -, -, -, -, -, -, -, hA10, hA11, -⟩ := hEd
  refine r_aald (q := 87) C (eN) dX6_addLoan_86 rfl (by assumption) (by omega) (by omega) (by omega) (by decide) (by assumption) rfl rfl (by decide) (by decide) ?_
  refine r_getR (q := 90) C f_X6_76 dX6_addLoan_87 rfl rfl (by assumption) (by assumption) (by omega) ?_
  refine r_il3 (q := 91) C dX6_addLoan_90 rfl ?_
  refine r_dup2 (q := 92) C dX6_addLoan_91 rfl ?_
  refine r_iald (q := 93) C (ix) dX6_addLoan_92 rfl (by assumption) (by omega) (by omega) (by omega) (by decide) ?_
  refine r_il4 (q := 95) C dX6_addLoan_93 rfl ?_
  refine r_isub (q := 96) C dX6_addLoan_95 rfl ?_
  rw [show o_up (o_lnc σ (hC + 84 + Mn) bo (eN : Int) (ix : Int) cx cx 0 (σ hC 7 + dx) 0) hC 5 ((Mn : Int) + 1) ((hC + 2 + 13 * eN) + 10) ix = σ ((hC + 2 + 13 * eN) + 10) ix by rw [o_up_ne (by omega), o_lnc_ne (by omega)]]
  refine r_iast (q := 97) C (ix) dX6_addLoan_96 rfl (by assumption) (by omega) (by omega) (by omega) (by decide) ?_
  refine r_al0 (q := 98) C dX6_addLoan_97 rfl ?_
  refine r_getR (q := 101) C f_X6_11 dX6_addLoan_98 rfl rfl (by assumption) (by assumption) (by omega) ?_
  refine r_il2 (q := 102) C dX6_addLoan_101 rfl ?_
  refine r_aald (q := 103) C (eN) dX6_addLoan_102 rfl (by assumption) (by omega) (by omega) (by omega) (by decide) (by assumption) rfl rfl (by decide) (by decide) ?_
  refine r_getR (q := 106) C f_X6_107 dX6_addLoan_103 rfl rfl (by assumption) (by assumption) (by omega) ?_
  refine r_il3 (q := 107) C dX6_addLoan_106 rfl ?_
  refine r_dup2 (q := 108) C dX6_addLoan_107 rfl ?_
  refine r_iald (q := 109) C (ix) dX6_addLoan_108 rfl (by assumption) (by omega) (by omega) (by omega) (by decide) ?_
  refine r_il4 (q := 111) C dX6_addLoan_109 rfl ?_
  refine r_iadd (q := 112) C dX6_addLoan_111 rfl ?_
  rw [show o_up (o_up (o_lnc σ (hC + 84 + Mn) bo (eN : Int) (ix : Int) cx cx 0 (σ hC 7 + dx) 0) hC 5 ((Mn : Int) + 1)) ((hC + 2 + 13 * eN) + 10) ix (σ ((hC + 2 + 13 * eN) + 10) ix - cx) ((hC + 2 + 13 * eN) + 11) ix = σ ((hC + 2 + 13 * eN) + 11) ix by rw [o_up_ne (by omega), o_up_ne (by omega), o_lnc_ne (by omega)]]
  refine r_iast (q := 113) C (ix) dX6_addLoan_112 rfl (by assumption) (by omega) (by omega) (by omega) (by decide) ?_
  refine r_il6 (q := 115) C dX6_addLoan_113 rfl ?_
  exact r_iret C hr dX6_addLoan_115 (by decide) (by decide) ⟨_, rfl, rfl, rfl, rfl⟩
set_option maxRecDepth 20000 in
set_option maxHeartbeats 8000000 in
theorem c_X6_takeBack {T : oT} {σ : oM} {hC lN eN ix : Nat} {gd bd : Int} (hH : oHd T hC) (hlN : lN < 20) (heN : eN < 6) (hi : ix < 6) (he : σ (hC + 84 + lN) 1 = (eN : Int)) (hin : σ (hC + 84 + lN) 2 = (ix : Int)) (hdy : 0 ≤ σ hC 7 ∧ σ hC 7 ≤ 1000000) (hdu : 0 ≤ σ (hC + 84 + lN) 6 ∧ σ (hC + 84 + lN) 6 ≤ 1000000) : MS yX6_takeBack cX6_takeBack 8 (some FieldType.int) 1 0 0 40 [og hC, oi ((lN : Nat) : Int), oi gd, oi bd] T σ (oPs (fun zx σ2 => zx = feeF (σ hC 7) (σ (hC + 84 + lN) 6) gd bd ∧ σ2 = o_brg σ (hC + 84 + lN) (hC + 2 + 13 * eN) ix gd bd (feeF (σ hC 7) (σ (hC + 84 + lN) 6) gd bd)) T) := by
  have hHc := hH
  obtain ⟨hH0, hH1, hH2, hH3, hH4, hH6, hG1, hG80, hG81, hG82, hG83, hEs, hLs, hHT⟩ := hHc
  refine o_met (by decide +kernel) (Nat.le_of_ble_eq_true rfl) (fun p l ee s m args below meth c G b C hr hn => ?_)
  have C : oCx p s m args meth c G b RX6 cX6_takeBack 8 := C
  show oW p l ee ({ frames := 1, cells := 0, slots := 0, locals := 40 } : Room) s m args below meth c G b 8 0 0 (MQ below (o_Qc G b (oPs (fun zx σ2 => zx = feeF (σ hC 7) (σ (hC + 84 + lN) 6) gd bd ∧ σ2 = o_brg σ (hC + 84 + lN) (hC + 2 + 13 * eN) ix gd bd (feeF (σ hC 7) (σ (hC + 84 + lN) 6) gd bd)) T)) args s 0 0 (fun q => b ≤ q)) T σ 0 [some (og hC), some (oi ((lN : Nat) : Int)), some (oi gd), some (oi bd), none, none, none, none] []
  refine r_al0 (q := 1) C dX6_takeBack_0 rfl ?_
  refine r_getR (q := 4) C f_X6_30 dX6_takeBack_1 rfl rfl (by assumption) (by assumption) (by omega) ?_
  refine r_il1 (q := 5) C dX6_takeBack_4 rfl ?_
  have hLj0 := (hLs (lN) (by omega)).1
  have hLj1 := (hLs (lN) (by omega)).2
  have hEj0 := (hEs (eN) (by omega)).1
  have hEd := (hEs (eN) (by omega)).2
  have hEj1 := hEd.1
  obtain ⟨-, -, -, -, -, -, hE8, hE9, hE10, -, -, -, -, -, -, hA10, hA11, hA12, -⟩ := hEd
  refine r_aald (q := 6) C (lN) dX6_takeBack_5 rfl (by assumption) (by omega) (by omega) (by omega) (by decide) (by assumption) rfl rfl (by decide) (by decide) ?_
  refine r_as4 (q := 8) C dX6_takeBack_6 rfl (by decide) ?_
  refine r_iconst (q := 9) C dX6_takeBack_8 rfl ?_
  refine r_al0 (q := 10) C dX6_takeBack_9 rfl ?_
  refine r_getI (q := 13) C f_X6_55 dX6_takeBack_10 rfl rfl (by assumption) (by omega) ?_
  refine r_al4 (q := 15) C dX6_takeBack_13 rfl ?_
  refine r_getI (q := 18) C f_X6_101 dX6_takeBack_15 rfl rfl (by assumption) (by omega) ?_
  refine r_isub (q := 19) C dX6_takeBack_18 rfl ?_
  refine r_max (q := 22) (z := (if σ hC 7 - σ (hC + 84 + lN) 6 ≤ 0 then 0 else σ hC 7 - σ (hC + 84 + lN) 6)) C (by split <;> split <;> omega) (by omega) (by omega) w_X6_110 dX6_takeBack_19 rfl (by decide) (Nat.le_of_ble_eq_true rfl) (by decide) ?_
  refine r_is5 (q := 24) C dX6_takeBack_22 rfl (by decide) ?_
  refine r_il2 (q := 25) C dX6_takeBack_24 rfl ?_
  refine r_il3 (q := 26) C dX6_takeBack_25 rfl ?_
  refine r_iadd (q := 27) C dX6_takeBack_26 rfl ?_
  refine r_il5 (q := 29) C dX6_takeBack_27 rfl ?_
  refine r_bipush (q := 31) C dX6_takeBack_29 (by decide) rfl ?_
  have hlate : 0 ≤ (if σ hC 7 - σ (hC + 84 + lN) 6 ≤ 0 then 0 else σ hC 7 - σ (hC + 84 + lN) 6) ∧ (if σ hC 7 - σ (hC + 84 + lN) 6 ≤ 0 then 0 else σ hC 7 - σ (hC + 84 + lN) 6) ≤ 1000000 := by split <;> omega
  refine r_min (q := 34) (z := (if 20 ≤ (if σ hC 7 - σ (hC + 84 + lN) 6 ≤ 0 then 0 else σ hC 7 - σ (hC + 84 + lN) 6) then 20 else (if σ hC 7 - σ (hC + 84 + lN) 6 ≤ 0 then 0 else σ hC 7 - σ (hC + 84 + lN) 6))) C (by split <;> split <;> omega) (by omega) (by omega) w_X6_116 dX6_takeBack_31 rfl (by decide) (Nat.le_of_ble_eq_true rfl) (by decide) ?_
  refine r_imul (q := 35) C dX6_takeBack_34 rfl ?_
  refine r_il3 (q := 36) C dX6_takeBack_35 rfl ?_
  refine r_bipush (q := 38) C dX6_takeBack_36 (by decide) rfl ?_
  refine r_imul (q := 39) C dX6_takeBack_38 rfl ?_
  refine r_iadd (q := 40) C dX6_takeBack_39 rfl ?_
  rw [show (gd + bd) * (if 20 ≤ (if σ hC 7 - σ (hC + 84 + lN) 6 ≤ 0 then 0 else σ hC 7 - σ (hC + 84 + lN) 6) then 20 else (if σ hC 7 - σ (hC + 84 + lN) 6 ≤ 0 then 0 else σ hC 7 - σ (hC + 84 + lN) 6)) + bd * 50 = feeF (σ hC 7) (σ (hC + 84 + lN) 6) gd bd from rfl]
  refine r_is6 (q := 42) C dX6_takeBack_40 rfl (by decide) ?_
  refine r_al4 (q := 44) C dX6_takeBack_42 rfl ?_
  refine r_dup (q := 45) C dX6_takeBack_44 rfl ?_
  refine r_getI (q := 48) C f_X6_95 dX6_takeBack_45 rfl rfl (by assumption) (by omega) ?_
  refine r_il2 (q := 49) C dX6_takeBack_48 rfl ?_
  refine r_il3 (q := 50) C dX6_takeBack_49 rfl ?_
  refine r_iadd (q := 51) C dX6_takeBack_50 rfl ?_
  refine r_isub (q := 52) C dX6_takeBack_51 rfl ?_
  refine r_putI (q := 55) C fp_X6_95 dX6_takeBack_52 rfl rfl (by assumption) (by omega) ?_
  refine r_al4 (q := 57) C dX6_takeBack_55 rfl ?_
  refine r_dup (q := 58) C dX6_takeBack_57 rfl ?_
  refine r_getI (q := 61) C f_X6_98 dX6_takeBack_58 rfl rfl (by assumption) (by omega) ?_
  refine r_il3 (q := 62) C dX6_takeBack_61 rfl ?_
  rw [show o_up σ (hC + 84 + lN) 4 (σ (hC + 84 + lN) 4 - (gd + bd)) (hC + 84 + lN) 5 = σ (hC + 84 + lN) 5 by rw [o_up_nj (Or.inr (by decide))]]
  refine r_iadd (q := 63) C dX6_takeBack_62 rfl ?_
  refine r_putI (q := 66) C fp_X6_98 dX6_takeBack_63 rfl rfl (by assumption) (by omega) ?_
  refine r_al4 (q := 68) C dX6_takeBack_66 rfl ?_
  refine r_dup (q := 69) C dX6_takeBack_68 rfl ?_
  refine r_getI (q := 72) C f_X6_104 dX6_takeBack_69 rfl rfl (by assumption) (by omega) ?_
  refine r_il6 (q := 74) C dX6_takeBack_72 rfl ?_
  rw [show o_up (o_up σ (hC + 84 + lN) 4 (σ (hC + 84 + lN) 4 - (gd + bd))) (hC + 84 + lN) 5 (σ (hC + 84 + lN) 5 + bd) (hC + 84 + lN) 7 = σ (hC + 84 + lN) 7 by rw [o_up_nj (Or.inr (by decide)), o_up_nj (Or.inr (by decide))]]
  refine r_iadd (q := 75) C dX6_takeBack_74 rfl ?_
  refine r_putI (q := 78) C fp_X6_104 dX6_takeBack_75 rfl rfl (by assumption) (by omega) ?_
  refine r_al0 (q := 79) C dX6_takeBack_78 rfl ?_
  refine r_getR (q := 82) C f_X6_11 dX6_takeBack_79 rfl rfl (by assumption) (by assumption) (by omega) ?_
  refine r_al4 (q := 84) C dX6_takeBack_82 rfl ?_
  refine r_getI (q := 87) C f_X6_86 dX6_takeBack_84 rfl rfl (by assumption) (by omega) ?_
  rw [show o_up (o_up (o_up σ (hC + 84 + lN) 4 (σ (hC + 84 + lN) 4 - (gd + bd))) (hC + 84 + lN) 5 (σ (hC + 84 + lN) 5 + bd)) (hC + 84 + lN) 7 (σ (hC + 84 + lN) 7 + feeF (σ hC 7) (σ (hC + 84 + lN) 6) gd bd) (hC + 84 + lN) 1 = (eN : Int) by rw [o_up_nj (Or.inr (by decide)), o_up_nj (Or.inr (by decide)), o_up_nj (Or.inr (by decide)), he]]
  refine r_aald (q := 88) C (eN) dX6_takeBack_87 rfl (by assumption) (by omega) (by omega) (by omega) (by decide) (by assumption) rfl rfl (by decide) (by decide) ?_
  refine r_as7 (q := 90) C dX6_takeBack_88 rfl (by decide) ?_
  refine r_al7 (q := 92) C dX6_takeBack_90 rfl ?_
  refine r_getR (q := 95) C f_X6_107 dX6_takeBack_92 rfl rfl (by assumption) (by assumption) (by omega) ?_
  refine r_al4 (q := 97) C dX6_takeBack_95 rfl ?_
  refine r_getI (q := 100) C f_X6_89 dX6_takeBack_97 rfl rfl (by assumption) (by omega) ?_
  rw [show o_up (o_up (o_up σ (hC + 84 + lN) 4 (σ (hC + 84 + lN) 4 - (gd + bd))) (hC + 84 + lN) 5 (σ (hC + 84 + lN) 5 + bd)) (hC + 84 + lN) 7 (σ (hC + 84 + lN) 7 + feeF (σ hC 7) (σ (hC + 84 + lN) 6) gd bd) (hC + 84 + lN) 2 = (ix : Int) by rw [o_up_nj (Or.inr (by decide)), o_up_nj (Or.inr (by decide)), o_up_nj (Or.inr (by decide)), hin]]
  refine r_dup2 (q := 101) C dX6_takeBack_100 rfl ?_
  refine r_iald (q := 102) C (ix) dX6_takeBack_101 rfl (by assumption) (by omega) (by omega) (by omega) (by decide) ?_
  refine r_il2 (q := 103) C dX6_takeBack_102 rfl ?_
  refine r_il3 (q := 104) C dX6_takeBack_103 rfl ?_
  refine r_iadd (q := 105) C dX6_takeBack_104 rfl ?_
  refine r_isub (q := 106) C dX6_takeBack_105 rfl ?_
  rw [show o_up (o_up (o_up σ (hC + 84 + lN) 4 (σ (hC + 84 + lN) 4 - (gd + bd))) (hC + 84 + lN) 5 (σ (hC + 84 + lN) 5 + bd)) (hC + 84 + lN) 7 (σ (hC + 84 + lN) 7 + feeF (σ hC 7) (σ (hC + 84 + lN) 6) gd bd) ((hC + 2 + 13 * eN) + 11) ix = σ ((hC + 2 + 13 * eN) + 11) ix by rw [o_up_ne (by omega), o_up_ne (by omega), o_up_ne (by omega)]]
  refine r_iast (q := 107) C (ix) dX6_takeBack_106 rfl (by assumption) (by omega) (by omega) (by omega) (by decide) ?_
  refine r_al7 (q := 109) C dX6_takeBack_107 rfl ?_
  refine r_getR (q := 112) C f_X6_76 dX6_takeBack_109 rfl rfl (by assumption) (by assumption) (by omega) ?_
  refine r_al4 (q := 114) C dX6_takeBack_112 rfl ?_
  refine r_getI (q := 117) C f_X6_89 dX6_takeBack_114 rfl rfl (by assumption) (by omega) ?_
  rw [show o_up (o_up (o_up (o_up σ (hC + 84 + lN) 4 (σ (hC + 84 + lN) 4 - (gd + bd))) (hC + 84 + lN) 5 (σ (hC + 84 + lN) 5 + bd)) (hC + 84 + lN) 7 (σ (hC + 84 + lN) 7 + feeF (σ hC 7) (σ (hC + 84 + lN) 6) gd bd)) ((hC + 2 + 13 * eN) + 11) ix (σ ((hC + 2 + 13 * eN) + 11) ix - (gd + bd)) (hC + 84 + lN) 2 = (ix : Int) by rw [o_up_ne (by omega), o_up_nj (Or.inr (by decide)), o_up_nj (Or.inr (by decide)), o_up_nj (Or.inr (by decide)), hin]]
  refine r_dup2 (q := 118) C dX6_takeBack_117 rfl ?_
  refine r_iald (q := 119) C (ix) dX6_takeBack_118 rfl (by assumption) (by omega) (by omega) (by omega) (by decide) ?_
  refine r_il2 (q := 120) C dX6_takeBack_119 rfl ?_
  refine r_iadd (q := 121) C dX6_takeBack_120 rfl ?_
  rw [show o_up (o_up (o_up (o_up σ (hC + 84 + lN) 4 (σ (hC + 84 + lN) 4 - (gd + bd))) (hC + 84 + lN) 5 (σ (hC + 84 + lN) 5 + bd)) (hC + 84 + lN) 7 (σ (hC + 84 + lN) 7 + feeF (σ hC 7) (σ (hC + 84 + lN) 6) gd bd)) ((hC + 2 + 13 * eN) + 11) ix (σ ((hC + 2 + 13 * eN) + 11) ix - (gd + bd)) ((hC + 2 + 13 * eN) + 10) ix = σ ((hC + 2 + 13 * eN) + 10) ix by rw [o_up_ne (by omega), o_up_ne (by omega), o_up_ne (by omega), o_up_ne (by omega)]]
  refine r_iast (q := 122) C (ix) dX6_takeBack_121 rfl (by assumption) (by omega) (by omega) (by omega) (by decide) ?_
  refine r_al7 (q := 124) C dX6_takeBack_122 rfl ?_
  refine r_getR (q := 127) C f_X6_119 dX6_takeBack_124 rfl rfl (by assumption) (by assumption) (by omega) ?_
  refine r_al4 (q := 129) C dX6_takeBack_127 rfl ?_
  refine r_getI (q := 132) C f_X6_89 dX6_takeBack_129 rfl rfl (by assumption) (by omega) ?_
  rw [show o_up (o_up (o_up (o_up (o_up σ (hC + 84 + lN) 4 (σ (hC + 84 + lN) 4 - (gd + bd))) (hC + 84 + lN) 5 (σ (hC + 84 + lN) 5 + bd)) (hC + 84 + lN) 7 (σ (hC + 84 + lN) 7 + feeF (σ hC 7) (σ (hC + 84 + lN) 6) gd bd)) ((hC + 2 + 13 * eN) + 11) ix (σ ((hC + 2 + 13 * eN) + 11) ix - (gd + bd))) ((hC + 2 + 13 * eN) + 10) ix (σ ((hC + 2 + 13 * eN) + 10) ix + gd) (hC + 84 + lN) 2 = (ix : Int) by rw [o_up_ne (by omega), o_up_ne (by omega), o_up_nj (Or.inr (by decide)), o_up_nj (Or.inr (by decide)), o_up_nj (Or.inr (by decide)), hin]]
  refine r_dup2 (q := 133) C dX6_takeBack_132 rfl ?_
  refine r_iald (q := 134) C (ix) dX6_takeBack_133 rfl (by assumption) (by omega) (by omega) (by omega) (by decide) ?_
  refine r_il3 (q := 135) C dX6_takeBack_134 rfl ?_
  refine r_iadd (q := 136) C dX6_takeBack_135 rfl ?_
  rw [show o_up (o_up (o_up (o_up (o_up σ (hC + 84 + lN) 4 (σ (hC + 84 + lN) 4 - (gd + bd))) (hC + 84 + lN) 5 (σ (hC + 84 + lN) 5 + bd)) (hC + 84 + lN) 7 (σ (hC + 84 + lN) 7 + feeF (σ hC 7) (σ (hC + 84 + lN) 6) gd bd)) ((hC + 2 + 13 * eN) + 11) ix (σ ((hC + 2 + 13 * eN) + 11) ix - (gd + bd))) ((hC + 2 + 13 * eN) + 10) ix (σ ((hC + 2 + 13 * eN) + 10) ix + gd) ((hC + 2 + 13 * eN) + 12) ix = σ ((hC + 2 + 13 * eN) + 12) ix by rw [o_up_ne (by omega), o_up_ne (by omega), o_up_ne (by omega), o_up_ne (by omega), o_up_ne (by omega)]]
  refine r_iast (q := 137) C (ix) dX6_takeBack_136 rfl (by assumption) (by omega) (by omega) (by omega) (by decide) ?_
  refine r_il6 (q := 139) C dX6_takeBack_137 rfl ?_
  exact r_iret C hr dX6_takeBack_139 (by decide) (by decide) ⟨_, rfl, rfl, rfl, rfl⟩
