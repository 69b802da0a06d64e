set_option maxRecDepth 20000 in
set_option maxHeartbeats 8000000 in
theorem c_X6_addLoansOfAllNeeded {T : oT} {σ : oM} {hC Mn eN : Nat} {bo dx : Int} (hH : oHd T hC) (hMn : σ hC 5 = (Mn : Int)) (hM20 : Mn + cntP (σ (hC + 82)) 6 ≤ 20) (heN : eN < 6) (hp : ∀ jx, jx < 6 → 0 ≤ σ (hC + 82) jx ∧ σ (hC + 82) jx ≤ 1000) : MS yX6_addLoansOfAllNeeded cX6_addLoansOfAllNeeded 5 none 1 0 0 27 [og hC, oi bo, oi ((eN : Nat) : Int), oi dx] T σ (oPv (fun σ2 => σ2 = (o_lendN σ hC (hC + 2 + 13 * eN) Mn bo (eN : Int) dx 6).1) T) := by
  have hHc := hH
  obtain ⟨hH0, hH1, hH2, hH3, hH4, hH6, hG1, hG80, hG81, hG82, hG83, hEs, hLs, hHT⟩ := hHc
  refine o_met (by decide +kernel) (Nat.le_of_ble_eq_true rfl) (fun p l ee s m args below meth c G b C hr hn => ?_)
  have C : oCx p s m args meth c G b RX6 cX6_addLoansOfAllNeeded 5 := C
  show oW p l ee ({ frames := 1, cells := 0, slots := 0, locals := 27 } : Room) s m args below meth c G b 5 0 0 (MQ below (o_Qc G b (oPv (fun σ2 => σ2 = (o_lendN σ hC (hC + 2 + 13 * eN) Mn bo (eN : Int) dx 6).1) T)) args s 0 0 (fun q => b ≤ q)) T σ 0 [some (og hC), some (oi bo), some (oi ((eN : Nat) : Int)), some (oi dx), none] []
  have lp : ∀ (n : Nat) (jx : Nat), 6 - jx < n → (jx ≤ 6) → oW p l ee ({ frames := 1, cells := 0, slots := 0, locals := 27 } : Room) s m args below meth c G b 5 0 0 (MQ below (o_Qc G b (oPv (fun σ2 => σ2 = (o_lendN σ hC (hC + 2 + 13 * eN) Mn bo (eN : Int) dx 6).1) T)) args s 0 0 (fun q => b ≤ q)) T (o_lendN σ hC (hC + 2 + 13 * eN) Mn bo (eN : Int) dx jx).1 3 [some (og hC), some (oi bo), some (oi ((eN : Nat) : Int)), some (oi dx), some (oi ((jx : Nat) : Int))] [] := by
    intro n
    induction n with
    | zero =>
      intro jx hms
      exact absurd hms (Nat.not_lt_zero _)
    | succ n ih =>
      intro jx hms h1
      refine r_il4 (q := 5) C dX6_addLoansOfAllNeeded_3 rfl ?_
      refine r_bipush (q := 7) C dX6_addLoansOfAllNeeded_5 (by decide) rfl ?_
      refine r_icge (q := 42) (q2 := 10) C (by omega) (by omega) dX6_addLoansOfAllNeeded_7 (by decide) rfl (fun br7 => ?_) (fun br7 => ?_)
      · exact r_vret C hr dX6_addLoansOfAllNeeded_42 (by decide) (by decide) ⟨rfl, rfl, by rw [show jx = 6 by omega]⟩
      · obtain ⟨hf1, hf2, hf3⟩ := o_lendN_f (σ := σ) (bo := bo) (ed := (eN : Int)) (dx := dx) heN hMn jx
        have hf4 := cntP_mono (P := σ (hC + 82)) (jx := jx + 1) (n := 6) (by omega)
        have hf5 : cntP (σ (hC + 82)) (jx + 1) = cntP (σ (hC + 82)) jx + (if 0 < σ (hC + 82) jx then 1 else 0) := rfl
        have hf6 := hp jx (by omega)
        have hf7 : (o_lendN σ hC (hC + 2 + 13 * eN) Mn bo (eN : Int) dx jx).1 (hC + 82) jx = σ (hC + 82) jx := by rw [hf1]
        refine r_al0 (q := 11) C dX6_addLoansOfAllNeeded_10 rfl ?_
        refine r_getR (q := 14) C f_X6_25 dX6_addLoansOfAllNeeded_11 rfl rfl (by assumption) (by assumption) (by omega) ?_
        refine r_il4 (q := 16) C dX6_addLoansOfAllNeeded_14 rfl ?_
        refine r_iald (q := 17) C (jx) dX6_addLoansOfAllNeeded_16 rfl (by assumption) (by omega) (by omega) (by omega) (by decide) ?_
        refine r_ifle (q := 36) (q2 := 20) C (by omega) dX6_addLoansOfAllNeeded_17 (by decide) rfl (fun br17 => ?_) (fun br17 => ?_)
        · refine r_iinc4 (q := 39) C dX6_addLoansOfAllNeeded_36 rfl (by decide) ?_
          refine r_goto (q := 3) C dX6_addLoansOfAllNeeded_39 (by decide) ?_
          have hs1 : (o_lendN σ hC (hC + 2 + 13 * eN) Mn bo (eN : Int) dx (jx + 1)).1 = (o_lendN σ hC (hC + 2 + 13 * eN) Mn bo (eN : Int) dx jx).1 := by
            rw [o_lendN, if_neg (by omega)]
          rw [← hs1]
          exact ih (jx + 1) (by omega) (by omega)
        · refine r_al0 (q := 21) C dX6_addLoansOfAllNeeded_20 rfl ?_
          refine r_il1 (q := 22) C dX6_addLoansOfAllNeeded_21 rfl ?_
          refine r_il2 (q := 23) C dX6_addLoansOfAllNeeded_22 rfl ?_
          refine r_il4 (q := 25) C dX6_addLoansOfAllNeeded_23 rfl ?_
          refine r_al0 (q := 26) C dX6_addLoansOfAllNeeded_25 rfl ?_
          refine r_il4 (q := 28) C dX6_addLoansOfAllNeeded_26 rfl ?_
          refine r_callV1 (q := 31) C (c_X6_desks (ix := jx) hH (by omega) (by rw [hf7]; exact hf6)) m_X6_72 (by assumption) (by omega) dX6_addLoansOfAllNeeded_28 rfl rfl (by decide) (by decide) (Nat.le_of_ble_eq_true rfl) ?_
          refine r_il3 (q := 32) C dX6_addLoansOfAllNeeded_31 rfl ?_
          refine r_callVs (q := 35) C (c_X6_addLoan (Mn := (o_lendN σ hC (hC + 2 + 13 * eN) Mn bo (eN : Int) dx jx).2) (eN := eN) (ix := jx) hH hf2 (by rw [if_pos (show 0 < σ (hC + 82) jx by omega)] at hf5; omega) heN (by omega)) m_X6_79 (by assumption) (by omega) dX6_addLoansOfAllNeeded_32 rfl rfl (by decide) (by decide) (Nat.le_of_ble_eq_true rfl) (fun z2 σ2 hσ2 => ?_)
          obtain ⟨-, rfl⟩ := hσ2
          refine r_pop (q := 36) C dX6_addLoansOfAllNeeded_35 rfl ?_
          refine r_iinc4 (q := 39) C dX6_addLoansOfAllNeeded_36 rfl (by decide) ?_
          refine r_goto (q := 3) C dX6_addLoansOfAllNeeded_39 (by decide) ?_
          have hs1 : (o_lendN σ hC (hC + 2 + 13 * eN) Mn bo (eN : Int) dx (jx + 1)).1 = o_lend (o_lendN σ hC (hC + 2 + 13 * eN) Mn bo (eN : Int) dx jx).1 hC (hC + 2 + 13 * eN) (o_lendN σ hC (hC + 2 + 13 * eN) Mn bo (eN : Int) dx jx).2 jx bo (eN : Int) (jx : Int) (deskF ((o_lendN σ hC (hC + 2 + 13 * eN) Mn bo (eN : Int) dx jx).1 (hC + 82)) jx) dx := by
            rw [o_lendN, if_pos (by omega)]
          rw [← hs1]
          exact ih (jx + 1) (by omega) (by omega)
  refine r_iconst (q := 1) C dX6_addLoansOfAllNeeded_0 rfl ?_
  refine r_is4 (q := 3) C dX6_addLoansOfAllNeeded_1 rfl (by decide) ?_
  exact lp _ 0 (Nat.lt_succ_self _) (by omega)
set_option maxRecDepth 20000 in
set_option maxHeartbeats 8000000 in
theorem c_X6_overdueAhead {T : oT} {σ : oM} {hC Mn ix : Nat} (hH : oHd T hC) (hMn : σ hC 5 = (Mn : Int)) (hM20 : Mn ≤ 20) (hix : ix < Mn) (hrg : ∀ jx, jx < Mn → o_r (σ (hC + 84 + jx) 0) ∧ o_r (σ (hC + 84 + jx) 4) ∧ o_r (σ (hC + 84 + jx) 6)) (hdy : o_r (σ hC 7)) : MS yX6_overdueAhead cX6_overdueAhead 5 (some FieldType.int) 1 0 0 21 [og hC, oi ((ix : Nat) : Int)] T σ (oP1 (oi (ahF (fun jx => σ (hC + 84 + jx) 4) (fun jx => σ (hC + 84 + jx) 6) (σ hC 7) Mn ix)) T σ) := by
  have hHc := hH
  obtain ⟨hH0, hH1, hH2, hH3, hH4, hH6, hG1, hG80, hG81, hG82, hG83, hEs, hLs, hHT⟩ := hHc
  refine o_met (by decide +kernel) (Nat.le_of_ble_eq_true rfl) (fun p l ee s m args below meth c G b C hr hn => ?_)
  have C : oCx p s m args meth c G b RX6 cX6_overdueAhead 5 := C
  show oW p l ee ({ frames := 1, cells := 0, slots := 0, locals := 21 } : Room) s m args below meth c G b 5 0 0 (MQ below (o_Qc G b (oP1 (oi (ahF (fun jx => σ (hC + 84 + jx) 4) (fun jx => σ (hC + 84 + jx) 6) (σ hC 7) Mn ix)) T σ)) args s 0 0 (fun q => b ≤ q)) T σ 0 [some (og hC), some (oi ((ix : Nat) : Int)), none, none, none] []
  have lp : ∀ (n : Nat) (w4 : Option oV) (jx : Nat), Mn - jx < n → (jx ≤ Mn) → oW p l ee ({ frames := 1, cells := 0, slots := 0, locals := 21 } : Room) s m args below meth c G b 5 0 0 (MQ below (o_Qc G b (oP1 (oi (ahF (fun jx => σ (hC + 84 + jx) 4) (fun jx => σ (hC + 84 + jx) 6) (σ hC 7) Mn ix)) T σ)) args s 0 0 (fun q => b ≤ q)) T σ 4 [some (og hC), some (oi ((ix : Nat) : Int)), some (oi (sumF (fun jx => if ovF (σ (hC + 84 + jx) 4) (σ (hC + 84 + jx) 6) (σ hC 7) = true ∧ (σ (hC + 84 + jx) 6 < σ (hC + 84 + ix) 6 ∨ (σ (hC + 84 + jx) 6 = σ (hC + 84 + ix) 6 ∧ jx < ix)) then 1 else 0) jx)), some (oi ((jx : Nat) : Int)), w4] [] := by
    intro n
    induction n with
    | zero =>
      intro w4 jx hms
      exact absurd hms (Nat.not_lt_zero _)
    | succ n ih =>
      intro w4 jx hms h1
      refine r_il3 (q := 5) C dX6_overdueAhead_4 rfl ?_
      refine r_al0 (q := 6) C dX6_overdueAhead_5 rfl ?_
      refine r_getI (q := 9) C f_X6_49 dX6_overdueAhead_6 rfl rfl (by assumption) (by omega) ?_
      refine r_icge (q := 101) (q2 := 12) C (by omega) (by omega) dX6_overdueAhead_9 (by decide) rfl (fun br9 => ?_) (fun br9 => ?_)
      · refine r_il2 (q := 102) C dX6_overdueAhead_101 rfl ?_
        exact r_iret C hr dX6_overdueAhead_102 (by decide) (by decide) ⟨by rw [show jx = Mn by omega]; rfl, rfl, rfl⟩
      · refine r_al0 (q := 13) C dX6_overdueAhead_12 rfl ?_
        refine r_getR (q := 16) C f_X6_30 dX6_overdueAhead_13 rfl rfl (by assumption) (by assumption) (by omega) ?_
        refine r_il3 (q := 17) C dX6_overdueAhead_16 rfl ?_
        have hLj0 := (hLs (jx) (by omega)).1
        have hLj1 := (hLs (jx) (by omega)).2
        obtain ⟨hr1, hr2, hr3⟩ := hrg jx (by omega)
        obtain ⟨hr4, hr5, hr6⟩ := hrg ix (by omega)
        refine r_aald (q := 18) C (jx) dX6_overdueAhead_17 rfl (by assumption) (by omega) (by omega) (by omega) (by decide) (by assumption) rfl rfl (by decide) (by decide) ?_
        refine r_getI (q := 21) C f_X6_101 dX6_overdueAhead_18 rfl rfl (by assumption) (by omega) ?_
        refine r_al0 (q := 22) C dX6_overdueAhead_21 rfl ?_
        refine r_getR (q := 25) C f_X6_30 dX6_overdueAhead_22 rfl rfl (by assumption) (by assumption) (by omega) ?_
        refine r_il1 (q := 26) C dX6_overdueAhead_25 rfl ?_
        have hLj0i := (hLs (ix) (by omega)).1
        have hLj1i := (hLs (ix) (by omega)).2
        refine r_aald (q := 27) C (ix) dX6_overdueAhead_26 rfl (by assumption) (by omega) (by omega) (by omega) (by decide) (by assumption) rfl rfl (by decide) (by decide) ?_
        refine r_getI (q := 30) C f_X6_101 dX6_overdueAhead_27 rfl rfl (by assumption) (by omega) ?_
        refine r_iclt (q := 59) (q2 := 33) C (by omega) (by omega) dX6_overdueAhead_30 (by decide) rfl (fun br30 => ?_) (fun br30 => ?_)
        · refine r_iconst (q := 60) C dX6_overdueAhead_59 rfl ?_
          refine r_goto (q := 64) C dX6_overdueAhead_60 (by decide) ?_
          refine r_is4 (q := 66) C dX6_overdueAhead_64 rfl (by decide) ?_
          refine r_il2 (q := 67) C dX6_overdueAhead_66 rfl ?_
          refine r_al0 (q := 68) C dX6_overdueAhead_67 rfl ?_
          refine r_getR (q := 71) C f_X6_30 dX6_overdueAhead_68 rfl rfl (by assumption) (by assumption) (by omega) ?_
          refine r_il3 (q := 72) C dX6_overdueAhead_71 rfl ?_
          refine r_aald (q := 73) C (jx) dX6_overdueAhead_72 rfl (by assumption) (by omega) (by omega) (by omega) (by decide) (by assumption) rfl rfl (by decide) (by decide) ?_
          refine r_al0 (q := 74) C dX6_overdueAhead_73 rfl ?_
          refine r_getI (q := 77) C f_X6_55 dX6_overdueAhead_74 rfl rfl (by assumption) (by omega) ?_
          refine r_callVb (q := 80) C (c_X7_isOverdue hLj1 (by omega) hdy hr2 hr3) m_X6_122 (by assumption) (by omega) dX6_overdueAhead_77 rfl rfl (by decide) (by decide) (Nat.le_of_ble_eq_true rfl) (fun br77 => ?_) (fun br77 => ?_)
          · refine r_ifeq_f (q := 92) (q2 := 83) C (by decide) (by omega) dX6_overdueAhead_80 (by decide) rfl ?_
            refine r_il4 (q := 85) C dX6_overdueAhead_83 rfl ?_
            refine r_ifeq_f (q := 92) (q2 := 88) C (by decide) (by omega) dX6_overdueAhead_85 (by decide) rfl ?_
            refine r_iconst (q := 89) C dX6_overdueAhead_88 rfl ?_
            refine r_goto (q := 93) C dX6_overdueAhead_89 (by decide) ?_
            refine r_iadd (q := 94) C dX6_overdueAhead_93 rfl ?_
            refine r_is2 (q := 95) C dX6_overdueAhead_94 rfl (by decide) ?_
            refine r_iinc3 (q := 98) C dX6_overdueAhead_95 rfl (by decide) ?_
            refine r_goto (q := 4) C dX6_overdueAhead_98 (by decide) ?_
            have hs1 : sumF (fun jx => if ovF (σ (hC + 84 + jx) 4) (σ (hC + 84 + jx) 6) (σ hC 7) = true ∧ (σ (hC + 84 + jx) 6 < σ (hC + 84 + ix) 6 ∨ (σ (hC + 84 + jx) 6 = σ (hC + 84 + ix) 6 ∧ jx < ix)) then 1 else 0) jx + 1 = sumF (fun jx => if ovF (σ (hC + 84 + jx) 4) (σ (hC + 84 + jx) 6) (σ hC 7) = true ∧ (σ (hC + 84 + jx) 6 < σ (hC + 84 + ix) 6 ∨ (σ (hC + 84 + jx) 6 = σ (hC + 84 + ix) 6 ∧ jx < ix)) then 1 else 0) (jx + 1) := by
              rw [show sumF (fun jx => if ovF (σ (hC + 84 + jx) 4) (σ (hC + 84 + jx) 6) (σ hC 7) = true ∧ (σ (hC + 84 + jx) 6 < σ (hC + 84 + ix) 6 ∨ (σ (hC + 84 + jx) 6 = σ (hC + 84 + ix) 6 ∧ jx < ix)) then 1 else 0) (jx + 1) = sumF (fun jx => if ovF (σ (hC + 84 + jx) 4) (σ (hC + 84 + jx) 6) (σ hC 7) = true ∧ (σ (hC + 84 + jx) 6 < σ (hC + 84 + ix) 6 ∨ (σ (hC + 84 + jx) 6 = σ (hC + 84 + ix) 6 ∧ jx < ix)) then 1 else 0) jx + (((fun jx => if ovF (σ (hC + 84 + jx) 4) (σ (hC + 84 + jx) 6) (σ hC 7) = true ∧ (σ (hC + 84 + jx) 6 < σ (hC + 84 + ix) 6 ∨ (σ (hC + 84 + jx) 6 = σ (hC + 84 + ix) 6 ∧ jx < ix)) then 1 else 0) : Nat → Int) jx) from rfl, show (((fun jx => if ovF (σ (hC + 84 + jx) 4) (σ (hC + 84 + jx) 6) (σ hC 7) = true ∧ (σ (hC + 84 + jx) 6 < σ (hC + 84 + ix) 6 ∨ (σ (hC + 84 + jx) 6 = σ (hC + 84 + ix) 6 ∧ jx < ix)) then 1 else 0) : Nat → Int) jx) = 1 from if_pos ⟨ovF_t.mpr br77, by omega⟩]
            rw [hs1]
            exact ih _ (jx + 1) (by omega) (by omega)
          · refine r_ifeq_t (q := 92) C (by decide) (by omega) dX6_overdueAhead_80 (by decide) ?_
            refine r_iconst (q := 93) C dX6_overdueAhead_92 rfl ?_
            refine r_iadd (q := 94) C dX6_overdueAhead_93 rfl ?_
            refine r_is2 (q := 95) C dX6_overdueAhead_94 rfl (by decide) ?_
            refine r_iinc3 (q := 98) C dX6_overdueAhead_95 rfl (by decide) ?_
            refine r_goto (q := 4) C dX6_overdueAhead_98 (by decide) ?_
            have hs1 : sumF (fun jx => if ovF (σ (hC + 84 + jx) 4) (σ (hC + 84 + jx) 6) (σ hC 7) = true ∧ (σ (hC + 84 + jx) 6 < σ (hC + 84 + ix) 6 ∨ (σ (hC + 84 + jx) 6 = σ (hC + 84 + ix) 6 ∧ jx < ix)) then 1 else 0) jx + 0 = sumF (fun jx => if ovF (σ (hC + 84 + jx) 4) (σ (hC + 84 + jx) 6) (σ hC 7) = true ∧ (σ (hC + 84 + jx) 6 < σ (hC + 84 + ix) 6 ∨ (σ (hC + 84 + jx) 6 = σ (hC + 84 + ix) 6 ∧ jx < ix)) then 1 else 0) (jx + 1) := by
              rw [show sumF (fun jx => if ovF (σ (hC + 84 + jx) 4) (σ (hC + 84 + jx) 6) (σ hC 7) = true ∧ (σ (hC + 84 + jx) 6 < σ (hC + 84 + ix) 6 ∨ (σ (hC + 84 + jx) 6 = σ (hC + 84 + ix) 6 ∧ jx < ix)) then 1 else 0) (jx + 1) = sumF (fun jx => if ovF (σ (hC + 84 + jx) 4) (σ (hC + 84 + jx) 6) (σ hC 7) = true ∧ (σ (hC + 84 + jx) 6 < σ (hC + 84 + ix) 6 ∨ (σ (hC + 84 + jx) 6 = σ (hC + 84 + ix) 6 ∧ jx < ix)) then 1 else 0) jx + (((fun jx => if ovF (σ (hC + 84 + jx) 4) (σ (hC + 84 + jx) 6) (σ hC 7) = true ∧ (σ (hC + 84 + jx) 6 < σ (hC + 84 + ix) 6 ∨ (σ (hC + 84 + jx) 6 = σ (hC + 84 + ix) 6 ∧ jx < ix)) then 1 else 0) : Nat → Int) jx) from rfl, show (((fun jx => if ovF (σ (hC + 84 + jx) 4) (σ (hC + 84 + jx) 6) (σ hC 7) = true ∧ (σ (hC + 84 + jx) 6 < σ (hC + 84 + ix) 6 ∨ (σ (hC + 84 + jx) 6 = σ (hC + 84 + ix) 6 ∧ jx < ix)) then 1 else 0) : Nat → Int) jx) = 0 from if_neg (by rw [ovF_t]; omega)]
            rw [hs1]
            exact ih _ (jx + 1) (by omega) (by omega)
        · refine r_al0 (q := 34) C dX6_overdueAhead_33 rfl ?_
          refine r_getR (q := 37) C f_X6_30 dX6_overdueAhead_34 rfl rfl (by assumption) (by assumption) (by omega) ?_
          refine r_il3 (q := 38) C dX6_overdueAhead_37 rfl ?_
          refine r_aald (q := 39) C (jx) dX6_overdueAhead_38 rfl (by assumption) (by omega) (by omega) (by omega) (by decide) (by assumption) rfl rfl (by decide) (by decide) ?_
          refine r_getI (q := 42) C f_X6_101 dX6_overdueAhead_39 rfl rfl (by assumption) (by omega) ?_
          refine r_al0 (q := 43) C dX6_overdueAhead_42 rfl ?_
          refine r_getR (q := 46) C f_X6_30 dX6_overdueAhead_43 rfl rfl (by assumption) (by assumption) (by omega) ?_
          refine r_il1 (q := 47) C dX6_overdueAhead_46 rfl ?_
          refine r_aald (q := 48) C (ix) dX6_overdueAhead_47 rfl (by assumption) (by omega) (by omega) (by omega) (by decide) (by assumption) rfl rfl (by decide) (by decide) ?_
          refine r_getI (q := 51) C f_X6_101 dX6_overdueAhead_48 rfl rfl (by assumption) (by omega) ?_
          refine r_icne (q := 63) (q2 := 54) C (by omega) (by omega) dX6_overdueAhead_51 (by decide) rfl (fun br51 => ?_) (fun br51 => ?_)
          · refine r_iconst (q := 64) C dX6_overdueAhead_63 rfl ?_
            refine r_is4 (q := 66) C dX6_overdueAhead_64 rfl (by decide) ?_
            refine r_il2 (q := 67) C dX6_overdueAhead_66 rfl ?_
            refine r_al0 (q := 68) C dX6_overdueAhead_67 rfl ?_
            refine r_getR (q := 71) C f_X6_30 dX6_overdueAhead_68 rfl rfl (by assumption) (by assumption) (by omega) ?_
            refine r_il3 (q := 72) C dX6_overdueAhead_71 rfl ?_
            refine r_aald (q := 73) C (jx) dX6_overdueAhead_72 rfl (by assumption) (by omega) (by omega) (by omega) (by decide) (by assumption) rfl rfl (by decide) (by decide) ?_
            refine r_al0 (q := 74) C dX6_overdueAhead_73 rfl ?_
            refine r_getI (q := 77) C f_X6_55 dX6_overdueAhead_74 rfl rfl (by assumption) (by omega) ?_
            refine r_callVb (q := 80) C (c_X7_isOverdue hLj1 (by omega) hdy hr2 hr3) m_X6_122 (by assumption) (by omega) dX6_overdueAhead_77 rfl rfl (by decide) (by decide) (Nat.le_of_ble_eq_true rfl) (fun br77 => ?_) (fun br77 => ?_)
            · refine r_ifeq_f (q := 92) (q2 := 83) C (by decide) (by omega) dX6_overdueAhead_80 (by decide) rfl ?_
              refine r_il4 (q := 85) C dX6_overdueAhead_83 rfl ?_
              refine r_ifeq_t (q := 92) C (by decide) (by omega) dX6_overdueAhead_85 (by decide) ?_
              refine r_iconst (q := 93) C dX6_overdueAhead_92 rfl ?_
              refine r_iadd (q := 94) C dX6_overdueAhead_93 rfl ?_
              refine r_is2 (q := 95) C dX6_overdueAhead_94 rfl (by decide) ?_
              refine r_iinc3 (q := 98) C dX6_overdueAhead_95 rfl (by decide) ?_
              refine r_goto (q := 4) C dX6_overdueAhead_98 (by decide) ?_
              have hs1 : sumF (fun jx => if ovF (σ (hC + 84 + jx) 4) (σ (hC + 84 + jx) 6) (σ hC 7) = true ∧ (σ (hC + 84 + jx) 6 < σ (hC + 84 + ix) 6 ∨ (σ (hC + 84 + jx) 6 = σ (hC + 84 + ix) 6 ∧ jx < ix)) then 1 else 0) jx + 0 = sumF (fun jx => if ovF (σ (hC + 84 + jx) 4) (σ (hC + 84 + jx) 6) (σ hC 7) = true ∧ (σ (hC + 84 + jx) 6 < σ (hC + 84 + ix) 6 ∨ (σ (hC + 84 + jx) 6 = σ (hC + 84 + ix) 6 ∧ jx < ix)) then 1 else 0) (jx + 1) := by
                rw [show sumF (fun jx => if ovF (σ (hC + 84 + jx) 4) (σ (hC + 84 + jx) 6) (σ hC 7) = true ∧ (σ (hC + 84 + jx) 6 < σ (hC + 84 + ix) 6 ∨ (σ (hC + 84 + jx) 6 = σ (hC + 84 + ix) 6 ∧ jx < ix)) then 1 else 0) (jx + 1) = sumF (fun jx => if ovF (σ (hC + 84 + jx) 4) (σ (hC + 84 + jx) 6) (σ hC 7) = true ∧ (σ (hC + 84 + jx) 6 < σ (hC + 84 + ix) 6 ∨ (σ (hC + 84 + jx) 6 = σ (hC + 84 + ix) 6 ∧ jx < ix)) then 1 else 0) jx + (((fun jx => if ovF (σ (hC + 84 + jx) 4) (σ (hC + 84 + jx) 6) (σ hC 7) = true ∧ (σ (hC + 84 + jx) 6 < σ (hC + 84 + ix) 6 ∨ (σ (hC + 84 + jx) 6 = σ (hC + 84 + ix) 6 ∧ jx < ix)) then 1 else 0) : Nat → Int) jx) from rfl, show (((fun jx => if ovF (σ (hC + 84 + jx) 4) (σ (hC + 84 + jx) 6) (σ hC 7) = true ∧ (σ (hC + 84 + jx) 6 < σ (hC + 84 + ix) 6 ∨ (σ (hC + 84 + jx) 6 = σ (hC + 84 + ix) 6 ∧ jx < ix)) then 1 else 0) : Nat → Int) jx) = 0 from if_neg (by rw [ovF_t]; omega)]
              rw [hs1]
              exact ih _ (jx + 1) (by omega) (by omega)
            · refine r_ifeq_t (q := 92) C (by decide) (by omega) dX6_overdueAhead_80 (by decide) ?_
              refine r_iconst (q := 93) C dX6_overdueAhead_92 rfl ?_
              refine r_iadd (q := 94) C dX6_overdueAhead_93 rfl ?_
              refine r_is2 (q := 95) C dX6_overdueAhead_94 rfl (by decide) ?_
              refine r_iinc3 (q := 98) C dX6_overdueAhead_95 rfl (by decide) ?_
              refine r_goto (q := 4) C dX6_overdueAhead_98 (by decide) ?_
              have hs1 : sumF (fun jx => if ovF (σ (hC + 84 + jx) 4) (σ (hC + 84 + jx) 6) (σ hC 7) = true ∧ (σ (hC + 84 + jx) 6 < σ (hC + 84 + ix) 6 ∨ (σ (hC + 84 + jx) 6 = σ (hC + 84 + ix) 6 ∧ jx < ix)) then 1 else 0) jx + 0 = sumF (fun jx => if ovF (σ (hC + 84 + jx) 4) (σ (hC + 84 + jx) 6) (σ hC 7) = true ∧ (σ (hC + 84 + jx) 6 < σ (hC + 84 + ix) 6 ∨ (σ (hC + 84 + jx) 6 = σ (hC + 84 + ix) 6 ∧ jx < ix)) then 1 else 0) (jx + 1) := by
                rw [show sumF (fun jx => if ovF (σ (hC + 84 + jx) 4) (σ (hC + 84 + jx) 6) (σ hC 7) = true ∧ (σ (hC + 84 + jx) 6 < σ (hC + 84 + ix) 6 ∨ (σ (hC + 84 + jx) 6 = σ (hC + 84 + ix) 6 ∧ jx < ix)) then 1 else 0) (jx + 1) = sumF (fun jx => if ovF (σ (hC + 84 + jx) 4) (σ (hC + 84 + jx) 6) (σ hC 7) = true ∧ (σ (hC + 84 + jx) 6 < σ (hC + 84 + ix) 6 ∨ (σ (hC + 84 + jx) 6 = σ (hC + 84 + ix) 6 ∧ jx < ix)) then 1 else 0) jx + (((fun jx => if ovF (σ (hC + 84 + jx) 4) (σ (hC + 84 + jx) 6) (σ hC 7) = true ∧ (σ (hC + 84 + jx) 6 < σ (hC + 84 + ix) 6 ∨ (σ (hC + 84 + jx) 6 = σ (hC + 84 + ix) 6 ∧ jx < ix)) then 1 else 0) : Nat → Int) jx) from rfl, show (((fun jx => if ovF (σ (hC + 84 + jx) 4) (σ (hC + 84 + jx) 6) (σ hC 7) = true ∧ (σ (hC + 84 + jx) 6 < σ (hC + 84 + ix) 6 ∨ (σ (hC + 84 + jx) 6 = σ (hC + 84 + ix) 6 ∧ jx < ix)) then 1 else 0) : Nat → Int) jx) = 0 from if_neg (by rw [ovF_t]; omega)]
              rw [hs1]
              exact ih _ (jx + 1) (by omega) (by omega)
          · refine r_il3 (q := 55) C dX6_overdueAhead_54 rfl ?_
            refine r_il1 (q := 56) C dX6_overdueAhead_55 rfl ?_
            refine r_icge (q := 63) (q2 := 59) C (by omega) (by omega) dX6_overdueAhead_56 (by decide) rfl (fun br56 => ?_) (fun br56 => ?_)
            · refine r_iconst (q := 64) C dX6_overdueAhead_63 rfl ?_
              refine r_is4 (q := 66) C dX6_overdueAhead_64 rfl (by decide) ?_
              refine r_il2 (q := 67) C dX6_overdueAhead_66 rfl ?_
              refine r_al0 (q := 68) C dX6_overdueAhead_67 rfl ?_
              refine r_getR (q := 71) C f_X6_30 dX6_overdueAhead_68 rfl rfl (by assumption) (by assumption) (by omega) ?_
              refine r_il3 (q := 72) C dX6_overdueAhead_71 rfl ?_
              refine r_aald (q := 73) C (jx) dX6_overdueAhead_72 rfl (by assumption) (by omega) (by omega) (by omega) (by decide) (by assumption) rfl rfl (by decide) (by decide) ?_
              refine r_al0 (q := 74) C dX6_overdueAhead_73 rfl ?_
              refine r_getI (q := 77) C f_X6_55 dX6_overdueAhead_74 rfl rfl (by assumption) (by omega) ?_
              refine r_callVb (q := 80) C (c_X7_isOverdue hLj1 (by omega) hdy hr2 hr3) m_X6_122 (by assumption) (by omega) dX6_overdueAhead_77 rfl rfl (by decide) (by decide) (Nat.le_of_ble_eq_true rfl) (fun br77 => ?_) (fun br77 => ?_)
              · refine r_ifeq_f (q := 92) (q2 := 83) C (by decide) (by omega) dX6_overdueAhead_80 (by decide) rfl ?_
                refine r_il4 (q := 85) C dX6_overdueAhead_83 rfl ?_
                refine r_ifeq_t (q := 92) C (by decide) (by omega) dX6_overdueAhead_85 (by decide) ?_
                refine r_iconst (q := 93) C dX6_overdueAhead_92 rfl ?_
                refine r_iadd (q := 94) C dX6_overdueAhead_93 rfl ?_
                refine r_is2 (q := 95) C dX6_overdueAhead_94 rfl (by decide) ?_
                refine r_iinc3 (q := 98) C dX6_overdueAhead_95 rfl (by decide) ?_
                refine r_goto (q := 4) C dX6_overdueAhead_98 (by decide) ?_
                have hs1 : sumF (fun jx => if ovF (σ (hC + 84 + jx) 4) (σ (hC + 84 + jx) 6) (σ hC 7) = true ∧ (σ (hC + 84 + jx) 6 < σ (hC + 84 + ix) 6 ∨ (σ (hC + 84 + jx) 6 = σ (hC + 84 + ix) 6 ∧ jx < ix)) then 1 else 0) jx + 0 = sumF (fun jx => if ovF (σ (hC + 84 + jx) 4) (σ (hC + 84 + jx) 6) (σ hC 7) = true ∧ (σ (hC + 84 + jx) 6 < σ (hC + 84 + ix) 6 ∨ (σ (hC + 84 + jx) 6 = σ (hC + 84 + ix) 6 ∧ jx < ix)) then 1 else 0) (jx + 1) := by
                  rw [show sumF (fun jx => if ovF (σ (hC + 84 + jx) 4) (σ (hC + 84 + jx) 6) (σ hC 7) = true ∧ (σ (hC + 84 + jx) 6 < σ (hC + 84 + ix) 6 ∨ (σ (hC + 84 + jx) 6 = σ (hC + 84 + ix) 6 ∧ jx < ix)) then 1 else 0) (jx + 1) = sumF (fun jx => if ovF (σ (hC + 84 + jx) 4) (σ (hC + 84 + jx) 6) (σ hC 7) = true ∧ (σ (hC + 84 + jx) 6 < σ (hC + 84 + ix) 6 ∨ (σ (hC + 84 + jx) 6 = σ (hC + 84 + ix) 6 ∧ jx < ix)) then 1 else 0) jx + (((fun jx => if ovF (σ (hC + 84 + jx) 4) (σ (hC + 84 + jx) 6) (σ hC 7) = true ∧ (σ (hC + 84 + jx) 6 < σ (hC + 84 + ix) 6 ∨ (σ (hC + 84 + jx) 6 = σ (hC + 84 + ix) 6 ∧ jx < ix)) then 1 else 0) : Nat → Int) jx) from rfl, show (((fun jx => if ovF (σ (hC + 84 + jx) 4) (σ (hC + 84 + jx) 6) (σ hC 7) = true ∧ (σ (hC + 84 + jx) 6 < σ (hC + 84 + ix) 6 ∨ (σ (hC + 84 + jx) 6 = σ (hC + 84 + ix) 6 ∧ jx < ix)) then 1 else 0) : Nat → Int) jx) = 0 from if_neg (by rw [ovF_t]; omega)]
                rw [hs1]
                exact ih _ (jx + 1) (by omega) (by omega)
              · refine r_ifeq_t (q := 92) C (by decide) (by omega) dX6_overdueAhead_80 (by decide) ?_
                refine r_iconst (q := 93) C dX6_overdueAhead_92 rfl ?_
                refine r_iadd (q := 94) C dX6_overdueAhead_93 rfl ?_
                refine r_is2 (q := 95) C dX6_overdueAhead_94 rfl (by decide) ?_
                refine r_iinc3 (q := 98) C dX6_overdueAhead_95 rfl (by decide) ?_
                refine r_goto (q := 4) C dX6_overdueAhead_98 (by decide) ?_
                have hs1 : sumF (fun jx => if ovF (σ (hC + 84 + jx) 4) (σ (hC + 84 + jx) 6) (σ hC 7) = true ∧ (σ (hC + 84 + jx) 6 < σ (hC + 84 + ix) 6 ∨ (σ (hC + 84 + jx) 6 = σ (hC + 84 + ix) 6 ∧ jx < ix)) then 1 else 0) jx + 0 = sumF (fun jx => if ovF (σ (hC + 84 + jx) 4) (σ (hC + 84 + jx) 6) (σ hC 7) = true ∧ (σ (hC + 84 + jx) 6 < σ (hC + 84 + ix) 6 ∨ (σ (hC + 84 + jx) 6 = σ (hC + 84 + ix) 6 ∧ jx < ix)) then 1 else 0) (jx + 1) := by
                  rw [show sumF (fun jx => if ovF (σ (hC + 84 + jx) 4) (σ (hC + 84 + jx) 6) (σ hC 7) = true ∧ (σ (hC + 84 + jx) 6 < σ (hC + 84 + ix) 6 ∨ (σ (hC + 84 + jx) 6 = σ (hC + 84 + ix) 6 ∧ jx < ix)) then 1 else 0) (jx + 1) = sumF (fun jx => if ovF (σ (hC + 84 + jx) 4) (σ (hC + 84 + jx) 6) (σ hC 7) = true ∧ (σ (hC + 84 + jx) 6 < σ (hC + 84 + ix) 6 ∨ (σ (hC + 84 + jx) 6 = σ (hC + 84 + ix) 6 ∧ jx < ix)) then 1 else 0) jx + (((fun jx => if ovF (σ (hC + 84 + jx) 4) (σ (hC + 84 + jx) 6) (σ hC 7) = true ∧ (σ (hC + 84 + jx) 6 < σ (hC + 84 + ix) 6 ∨ (σ (hC + 84 + jx) 6 = σ (hC + 84 + ix) 6 ∧ jx < ix)) then 1 else 0) : Nat → Int) jx) from rfl, show (((fun jx => if ovF (σ (hC + 84 + jx) 4) (σ (hC + 84 + jx) 6) (σ hC 7) = true ∧ (σ (hC + 84 + jx) 6 < σ (hC + 84 + ix) 6 ∨ (σ (hC + 84 + jx) 6 = σ (hC + 84 + ix) 6 ∧ jx < ix)) then 1 else 0) : Nat → Int) jx) = 0 from if_neg (by rw [ovF_t]; omega)]
                rw [hs1]
                exact ih _ (jx + 1) (by omega) (by omega)
            · refine r_iconst (q := 60) C dX6_overdueAhead_59 rfl ?_
              refine r_goto (q := 64) C dX6_overdueAhead_60 (by decide) ?_
              refine r_is4 (q := 66) C dX6_overdueAhead_64 rfl (by decide) ?_
              refine r_il2 (q := 67) C dX6_overdueAhead_66 rfl ?_
              refine r_al0 (q := 68) C dX6_overdueAhead_67 rfl ?_
              refine r_getR (q := 71) C f_X6_30 dX6_overdueAhead_68 rfl rfl (by assumption) (by assumption) (by omega) ?_
              refine r_il3 (q := 72) C dX6_overdueAhead_71 rfl ?_
              refine r_aald (q := 73) C (jx) dX6_overdueAhead_72 rfl (by assumption) (by omega) (by omega) (by omega) (by decide) (by assumption) rfl rfl (by decide) (by decide) ?_
              refine r_al0 (q := 74) C dX6_overdueAhead_73 rfl ?_
              refine r_getI (q := 77) C f_X6_55 dX6_overdueAhead_74 rfl rfl (by assumption) (by omega) ?_
              refine r_callVb (q := 80) C (c_X7_isOverdue hLj1 (by omega) hdy hr2 hr3) m_X6_122 (by assumption) (by omega) dX6_overdueAhead_77 rfl rfl (by decide) (by decide) (Nat.le_of_ble_eq_true rfl) (fun br77 => ?_) (fun br77 => ?_)
              · refine r_ifeq_f (q := 92) (q2 := 83) C (by decide) (by omega) dX6_overdueAhead_80 (by decide) rfl ?_
                refine r_il4 (q := 85) C dX6_overdueAhead_83 rfl ?_
                refine r_ifeq_f (q := 92) (q2 := 88) C (by decide) (by omega) dX6_overdueAhead_85 (by decide) rfl ?_
                refine r_iconst (q := 89) C dX6_overdueAhead_88 rfl ?_
                refine r_goto (q := 93) C dX6_overdueAhead_89 (by decide) ?_
                refine r_iadd (q := 94) C dX6_overdueAhead_93 rfl ?_
                refine r_is2 (q := 95) C dX6_overdueAhead_94 rfl (by decide) ?_
                refine r_iinc3 (q := 98) C dX6_overdueAhead_95 rfl (by decide) ?_
                refine r_goto (q := 4) C dX6_overdueAhead_98 (by decide) ?_
                have hs1 : sumF (fun jx => if ovF (σ (hC + 84 + jx) 4) (σ (hC + 84 + jx) 6) (σ hC 7) = true ∧ (σ (hC + 84 + jx) 6 < σ (hC + 84 + ix) 6 ∨ (σ (hC + 84 + jx) 6 = σ (hC + 84 + ix) 6 ∧ jx < ix)) then 1 else 0) jx + 1 = sumF (fun jx => if ovF (σ (hC + 84 + jx) 4) (σ (hC + 84 + jx) 6) (σ hC 7) = true ∧ (σ (hC + 84 + jx) 6 < σ (hC + 84 + ix) 6 ∨ (σ (hC + 84 + jx) 6 = σ (hC + 84 + ix) 6 ∧ jx < ix)) then 1 else 0) (jx + 1) := by
                  rw [show sumF (fun jx => if ovF (σ (hC + 84 + jx) 4) (σ (hC + 84 + jx) 6) (σ hC 7) = true ∧ (σ (hC + 84 + jx) 6 < σ (hC + 84 + ix) 6 ∨ (σ (hC + 84 + jx) 6 = σ (hC + 84 + ix) 6 ∧ jx < ix)) then 1 else 0) (jx + 1) = sumF (fun jx => if ovF (σ (hC + 84 + jx) 4) (σ (hC + 84 + jx) 6) (σ hC 7) = true ∧ (σ (hC + 84 + jx) 6 < σ (hC + 84 + ix) 6 ∨ (σ (hC + 84 + jx) 6 = σ (hC + 84 + ix) 6 ∧ jx < ix)) then 1 else 0) jx + (((fun jx => if ovF (σ (hC + 84 + jx) 4) (σ (hC + 84 + jx) 6) (σ hC 7) = true ∧ (σ (hC + 84 + jx) 6 < σ (hC + 84 + ix) 6 ∨ (σ (hC + 84 + jx) 6 = σ (hC + 84 + ix) 6 ∧ jx < ix)) then 1 else 0) : Nat → Int) jx) from rfl, show (((fun jx => if ovF (σ (hC + 84 + jx) 4) (σ (hC + 84 + jx) 6) (σ hC 7) = true ∧ (σ (hC + 84 + jx) 6 < σ (hC + 84 + ix) 6 ∨ (σ (hC + 84 + jx) 6 = σ (hC + 84 + ix) 6 ∧ jx < ix)) then 1 else 0) : Nat → Int) jx) = 1 from if_pos ⟨ovF_t.mpr br77, by omega⟩]
                rw [hs1]
                exact ih _ (jx + 1) (by omega) (by omega)
              · refine r_ifeq_t (q := 92) C (by decide) (by omega) dX6_overdueAhead_80 (by decide) ?_
                refine r_iconst (q := 93) C dX6_overdueAhead_92 rfl ?_
                refine r_iadd (q := 94) C dX6_overdueAhead_93 rfl ?_
                refine r_is2 (q := 95) C dX6_overdueAhead_94 rfl (by decide) ?_
                refine r_iinc3 (q := 98) C dX6_overdueAhead_95 rfl (by decide) ?_
                refine r_goto (q := 4) C dX6_overdueAhead_98 (by decide) ?_
                have hs1 : sumF (fun jx => if ovF (σ (hC + 84 + jx) 4) (σ (hC + 84 + jx) 6) (σ hC 7) = true ∧ (σ (hC + 84 + jx) 6 < σ (hC + 84 + ix) 6 ∨ (σ (hC + 84 + jx) 6 = σ (hC + 84 + ix) 6 ∧ jx < ix)) then 1 else 0) jx + 0 = sumF (fun jx => if ovF (σ (hC + 84 + jx) 4) (σ (hC + 84 + jx) 6) (σ hC 7) = true ∧ (σ (hC + 84 + jx) 6 < σ (hC + 84 + ix) 6 ∨ (σ (hC + 84 + jx) 6 = σ (hC + 84 + ix) 6 ∧ jx < ix)) then 1 else 0) (jx + 1) := by
                  rw [show sumF (fun jx => if ovF (σ (hC + 84 + jx) 4) (σ (hC + 84 + jx) 6) (σ hC 7) = true ∧ (σ (hC + 84 + jx) 6 < σ (hC + 84 + ix) 6 ∨ (σ (hC + 84 + jx) 6 = σ (hC + 84 + ix) 6 ∧ jx < ix)) then 1 else 0) (jx + 1) = sumF (fun jx => if ovF (σ (hC + 84 + jx) 4) (σ (hC + 84 + jx) 6) (σ hC 7) = true ∧ (σ (hC + 84 + jx) 6 < σ (hC + 84 + ix) 6 ∨ (σ (hC + 84 + jx) 6 = σ (hC + 84 + ix) 6 ∧ jx < ix)) then 1 else 0) jx + (((fun jx => if ovF (σ (hC + 84 + jx) 4) (σ (hC + 84 + jx) 6) (σ hC 7) = true ∧ (σ (hC + 84 + jx) 6 < σ (hC + 84 + ix) 6 ∨ (σ (hC + 84 + jx) 6 = σ (hC + 84 + ix) 6 ∧ jx < ix)) then 1 else 0) : Nat → Int) jx) from rfl, show (((fun jx => if ovF (σ (hC + 84 + jx) 4) (σ (hC + 84 + jx) 6) (σ hC 7) = true ∧ (σ (hC + 84 + jx) 6 < σ (hC + 84 + ix) 6 ∨ (σ (hC + 84 + jx) 6 = σ (hC + 84 + ix) 6 ∧ jx < ix)) then 1 else 0) : Nat → Int) jx) = 0 from if_neg (by rw [ovF_t]; omega)]
                rw [hs1]
                exact ih _ (jx + 1) (by omega) (by omega)
  refine r_iconst (q := 1) C dX6_overdueAhead_0 rfl ?_
  refine r_is2 (q := 2) C dX6_overdueAhead_1 rfl (by decide) ?_
  refine r_iconst (q := 3) C dX6_overdueAhead_2 rfl ?_
  refine r_is3 (q := 4) C dX6_overdueAhead_3 rfl (by decide) ?_
  exact lp _ _ 0 (Nat.lt_succ_self _) (by omega)
set_option maxRecDepth 20000 in
set_option maxHeartbeats 8000000 in
theorem c_X6_overdueLoanAt {T : oT} {σ : oM} {hC Mn : Nat} {wx : Int} (hH : oHd T hC) (hMn : σ hC 5 = (Mn : Int)) (hM20 : Mn ≤ 20) (hw : o_r wx) (hrg : ∀ jx, jx < Mn → o_r (σ (hC + 84 + jx) 0) ∧ o_r (σ (hC + 84 + jx) 4) ∧ o_r (σ (hC + 84 + jx) 6)) (hdy : o_r (σ hC 7)) : MS yX6_overdueLoanAt cX6_overdueLoanAt 3 (some FieldType.int) 2 0 0 45 [og hC, oi wx] T σ (oP1 (oi (findF (fun ix => ovF (σ (hC + 84 + ix) 4) (σ (hC + 84 + ix) 6) (σ hC 7) && decide ((ahF (fun jx => σ (hC + 84 + jx) 4) (fun jx => σ (hC + 84 + jx) 6) (σ hC 7) Mn ix) = wx)) Mn 0)) T σ) := by
  have hHc := hH
  obtain ⟨hH0, hH1, hH2, hH3, hH4, hH6, hG1, hG80, hG81, hG82, hG83, hEs, hLs, hHT⟩ := hHc
  refine o_met (by decide +kernel) (Nat.le_of_ble_eq_true rfl) (fun p l ee s m args below meth c G b C hr hn => ?_)
  have C : oCx p s m args meth c G b RX6 cX6_overdueLoanAt 3 := C
  show oW p l ee ({ frames := 2, cells := 0, slots := 0, locals := 45 } : Room) s m args below meth c G b 3 0 0 (MQ below (o_Qc G b (oP1 (oi (findF (fun ix => ovF (σ (hC + 84 + ix) 4) (σ (hC + 84 + ix) 6) (σ hC 7) && decide ((ahF (fun jx => σ (hC + 84 + jx) 4) (fun jx => σ (hC + 84 + jx) 6) (σ hC 7) Mn ix) = wx)) Mn 0)) T σ)) args s 0 0 (fun q => b ≤ q)) T σ 0 [some (og hC), some (oi wx), none] []
  have lp : ∀ (n : Nat) (jx : Nat), Mn - jx < n → (jx ≤ Mn ∧ findF (fun ix => ovF (σ (hC + 84 + ix) 4) (σ (hC + 84 + ix) 6) (σ hC 7) && decide ((ahF (fun jx => σ (hC + 84 + jx) 4) (fun jx => σ (hC + 84 + jx) 6) (σ hC 7) Mn ix) = wx)) Mn 0 = findF (fun ix => ovF (σ (hC + 84 + ix) 4) (σ (hC + 84 + ix) 6) (σ hC 7) && decide ((ahF (fun jx => σ (hC + 84 + jx) 4) (fun jx => σ (hC + 84 + jx) 6) (σ hC 7) Mn ix) = wx)) (Mn - jx) jx) → oW p l ee ({ frames := 2, cells := 0, slots := 0, locals := 45 } : Room) s m args below meth c G b 3 0 0 (MQ below (o_Qc G b (oP1 (oi (findF (fun ix => ovF (σ (hC + 84 + ix) 4) (σ (hC + 84 + ix) 6) (σ hC 7) && decide ((ahF (fun jx => σ (hC + 84 + jx) 4) (fun jx => σ (hC + 84 + jx) 6) (σ hC 7) Mn ix) = wx)) Mn 0)) T σ)) args s 0 0 (fun q => b ≤ q)) T σ 2 [some (og hC), some (oi wx), some (oi ((jx : Nat) : Int))] [] := by
    intro n
    induction n with
    | zero =>
      intro jx hms
      exact absurd hms (Nat.not_lt_zero _)
    | succ n ih =>
      intro jx hms h1
      refine r_il2 (q := 3) C dX6_overdueLoanAt_2 rfl ?_
      refine r_al0 (q := 4) C dX6_overdueLoanAt_3 rfl ?_
      refine r_getI (q := 7) C f_X6_49 dX6_overdueLoanAt_4 rfl rfl (by assumption) (by omega) ?_
      refine r_icge (q := 43) (q2 := 10) C (by omega) (by omega) dX6_overdueLoanAt_7 (by decide) rfl (fun br7 => ?_) (fun br7 => ?_)
      · refine r_bipush (q := 45) C dX6_overdueLoanAt_43 (by decide) rfl ?_
        exact r_iret C hr dX6_overdueLoanAt_45 (by decide) (by decide) ⟨by rw [h1.2, show Mn - jx = 0 by omega]; rfl, rfl, rfl⟩
      · refine r_al0 (q := 11) C dX6_overdueLoanAt_10 rfl ?_
        refine r_getR (q := 14) C f_X6_30 dX6_overdueLoanAt_11 rfl rfl (by assumption) (by assumption) (by omega) ?_
        refine r_il2 (q := 15) C dX6_overdueLoanAt_14 rfl ?_
        have hLj0 := (hLs (jx) (by omega)).1
        have hLj1 := (hLs (jx) (by omega)).2
        obtain ⟨hr1, hr2, hr3⟩ := hrg jx (by omega)
        obtain ⟨n3, hn3⟩ : ∃ n3, Mn - jx = n3 + 1 := ⟨Mn - jx - 1, by omega⟩
        have hst := h1.2
        rw [hn3, findF] at hst
        refine r_aald (q := 16) C (jx) dX6_overdueLoanAt_15 rfl (by assumption) (by omega) (by omega) (by omega) (by decide) (by assumption) rfl rfl (by decide) (by decide) ?_
        refine r_al0 (q := 17) C dX6_overdueLoanAt_16 rfl ?_
        refine r_getI (q := 20) C f_X6_55 dX6_overdueLoanAt_17 rfl rfl (by assumption) (by omega) ?_
        refine r_callVb (q := 23) C (c_X7_isOverdue hLj1 (by omega) hdy hr2 hr3) m_X6_122 (by assumption) (by omega) dX6_overdueLoanAt_20 rfl rfl (by decide) (by decide) (Nat.le_of_ble_eq_true rfl) (fun br20 => ?_) (fun br20 => ?_)
        · refine r_ifeq_f (q := 37) (q2 := 26) C (by decide) (by omega) dX6_overdueLoanAt_23 (by decide) rfl ?_
          refine r_al0 (q := 27) C dX6_overdueLoanAt_26 rfl ?_
          refine r_il2 (q := 28) C dX6_overdueLoanAt_27 rfl ?_
          refine r_callV1 (q := 31) C (c_X6_overdueAhead (ix := jx) hH hMn hM20 (by omega) hrg hdy) m_X6_126 (by assumption) (by omega) dX6_overdueLoanAt_28 rfl rfl (by decide) (by decide) (Nat.le_of_ble_eq_true rfl) ?_
          refine r_il1 (q := 32) C dX6_overdueLoanAt_31 rfl ?_
          refine r_icne (q := 37) (q2 := 35) C (ahF_r hM20) hw dX6_overdueLoanAt_32 (by decide) rfl (fun br32 => ?_) (fun br32 => ?_)
          · refine r_iinc2 (q := 40) C dX6_overdueLoanAt_37 rfl (by decide) ?_
            refine r_goto (q := 2) C dX6_overdueLoanAt_40 (by decide) ?_
            exact ih (jx + 1) (by omega) ⟨by omega, by rw [hst, if_neg (by rw [Bool.and_eq_true, decide_eq_true_eq]; exact fun hq => br32 hq.2), show Mn - (jx + 1) = n3 by omega]⟩
          · refine r_il2 (q := 36) C dX6_overdueLoanAt_35 rfl ?_
            exact r_iret C hr dX6_overdueLoanAt_36 (by decide) (by decide) ⟨by rw [hst, if_pos (by rw [Bool.and_eq_true]; exact ⟨ovF_t.mpr br20, by rw [decide_eq_true_eq]; exact br32⟩)], rfl, rfl⟩
        · refine r_ifeq_t (q := 37) C (by decide) (by omega) dX6_overdueLoanAt_23 (by decide) ?_
          refine r_iinc2 (q := 40) C dX6_overdueLoanAt_37 rfl (by decide) ?_
          refine r_goto (q := 2) C dX6_overdueLoanAt_40 (by decide) ?_
          exact ih (jx + 1) (by omega) ⟨by omega, by rw [hst, if_neg (by rw [Bool.and_eq_true, ovF_t]; exact fun hq => br20 hq.1), show Mn - (jx + 1) = n3 by omega]⟩
  refine r_iconst (q := 1) C dX6_overdueLoanAt_0 rfl ?_
  refine r_is2 (q := 2) C dX6_overdueLoanAt_1 rfl (by decide) ?_
  exact lp _ 0 (Nat.lt_succ_self _) ⟨by omega, rfl⟩
set_option maxRecDepth 20000 in
set_option maxHeartbeats 8000000 in
theorem c_X6_sumOfLoans {T : oT} {σ : oM} {hC Mn : Nat} {bo wx : Int} (hH : oHd T hC) (hMn : σ hC 5 = (Mn : Int)) (hM20 : Mn ≤ 20) (hb : o_r bo) (hw : o_r wx) (hrg : ∀ jx, jx < Mn → o_r (σ (hC + 84 + jx) 0) ∧ o_r (σ (hC + 84 + jx) 4) ∧ o_r (σ (hC + 84 + jx) 6)) (hdy : o_r (σ hC 7)) : MS yX6_sumOfLoans cX6_sumOfLoans 5 (some FieldType.int) 2 0 0 43 [og hC, oi bo, oi wx] T σ (oP1 (oi (sumF (fun jx => if σ (hC + 84 + jx) 0 = bo then (if wx = 0 then σ (hC + 84 + jx) 4 else if wx = 1 then σ (hC + 84 + jx) 5 else if wx = 2 then σ (hC + 84 + jx) 7 else if 0 < σ (hC + 84 + jx) 4 ∧ σ (hC + 84 + jx) 6 < σ hC 7 then 1 else 0) else 0) Mn)) T σ) := by
  have hHc := hH
  obtain ⟨hH0, hH1, hH2, hH3, hH4, hH6, hG1, hG80, hG81, hG82, hG83, hEs, hLs, hHT⟩ := hHc
  refine o_met (by decide +kernel) (Nat.le_of_ble_eq_true rfl) (fun p l ee s m args below meth c G b C hr hn => ?_)
  have C : oCx p s m args meth c G b RX6 cX6_sumOfLoans 5 := C
  show oW p l ee ({ frames := 2, cells := 0, slots := 0, locals := 43 } : Room) s m args below meth c G b 5 0 0 (MQ below (o_Qc G b (oP1 (oi (sumF (fun jx => if σ (hC + 84 + jx) 0 = bo then (if wx = 0 then σ (hC + 84 + jx) 4 else if wx = 1 then σ (hC + 84 + jx) 5 else if wx = 2 then σ (hC + 84 + jx) 7 else if 0 < σ (hC + 84 + jx) 4 ∧ σ (hC + 84 + jx) 6 < σ hC 7 then 1 else 0) else 0) Mn)) T σ)) args s 0 0 (fun q => b ≤ q)) T σ 0 [some (og hC), some (oi bo), some (oi wx), none, none] []
  have lp : ∀ (n : Nat) (jx : Nat), Mn - jx < n → (jx ≤ Mn) → oW p l ee ({ frames := 2, cells := 0, slots := 0, locals := 43 } : Room) s m args below meth c G b 5 0 0 (MQ below (o_Qc G b (oP1 (oi (sumF (fun jx => if σ (hC + 84 + jx) 0 = bo then (if wx = 0 then σ (hC + 84 + jx) 4 else if wx = 1 then σ (hC + 84 + jx) 5 else if wx = 2 then σ (hC + 84 + jx) 7 else if 0 < σ (hC + 84 + jx) 4 ∧ σ (hC + 84 + jx) 6 < σ hC 7 then 1 else 0) else 0) Mn)) T σ)) args s 0 0 (fun q => b ≤ q)) T σ 5 [some (og hC), some (oi bo), some (oi wx), some (oi (sumF (fun jx => if σ (hC + 84 + jx) 0 = bo then (if wx = 0 then σ (hC + 84 + jx) 4 else if wx = 1 then σ (hC + 84 + jx) 5 else if wx = 2 then σ (hC + 84 + jx) 7 else if 0 < σ (hC + 84 + jx) 4 ∧ σ (hC + 84 + jx) 6 < σ hC 7 then 1 else 0) else 0) jx)), some (oi ((jx : Nat) : Int))] [] := by
    intro n
    induction n with
    | zero =>
      intro jx hms
      exact absurd hms (Nat.not_lt_zero _)
    | succ n ih =>
      intro jx hms h1
      refine r_il4 (q := 7) C dX6_sumOfLoans_5 rfl ?_
      refine r_al0 (q := 8) C dX6_sumOfLoans_7 rfl ?_
      refine r_getI (q := 11) C f_X6_49 dX6_sumOfLoans_8 rfl rfl (by assumption) (by omega) ?_
      refine r_icge (q := 56) (q2 := 14) C (by omega) (by omega) dX6_sumOfLoans_11 (by decide) rfl (fun br11 => ?_) (fun br11 => ?_)
      · refine r_il3 (q := 57) C dX6_sumOfLoans_56 rfl ?_
        exact r_iret C hr dX6_sumOfLoans_57 (by decide) (by decide) ⟨by rw [show jx = Mn by omega], rfl, rfl⟩
      · refine r_il3 (q := 15) C dX6_sumOfLoans_14 rfl ?_
        refine r_al0 (q := 16) C dX6_sumOfLoans_15 rfl ?_
        refine r_getR (q := 19) C f_X6_30 dX6_sumOfLoans_16 rfl rfl (by assumption) (by assumption) (by omega) ?_
        refine r_il4 (q := 21) C dX6_sumOfLoans_19 rfl ?_
        have hLj0 := (hLs (jx) (by omega)).1
        have hLj1 := (hLs (jx) (by omega)).2
        obtain ⟨hr1, hr2, hr3⟩ := hrg jx (by omega)
        refine r_aald (q := 22) C (jx) dX6_sumOfLoans_21 rfl (by assumption) (by omega) (by omega) (by omega) (by decide) (by assumption) rfl rfl (by decide) (by decide) ?_
        refine r_getI (q := 25) C f_X6_83 dX6_sumOfLoans_22 rfl rfl (by assumption) (by omega) ?_
        refine r_il1 (q := 26) C dX6_sumOfLoans_25 rfl ?_
        refine r_icne (q := 47) (q2 := 29) C hr1 hb dX6_sumOfLoans_26 (by decide) rfl (fun br26 => ?_) (fun br26 => ?_)
        · refine r_iconst (q := 48) C dX6_sumOfLoans_47 rfl ?_
          refine r_iadd (q := 49) C dX6_sumOfLoans_48 rfl ?_
          refine r_is3 (q := 50) C dX6_sumOfLoans_49 rfl (by decide) ?_
          refine r_iinc4 (q := 53) C dX6_sumOfLoans_50 rfl (by decide) ?_
          refine r_goto (q := 5) C dX6_sumOfLoans_53 (by decide) ?_
          have hs1 : sumF (fun jx => if σ (hC + 84 + jx) 0 = bo then (if wx = 0 then σ (hC + 84 + jx) 4 else if wx = 1 then σ (hC + 84 + jx) 5 else if wx = 2 then σ (hC + 84 + jx) 7 else if 0 < σ (hC + 84 + jx) 4 ∧ σ (hC + 84 + jx) 6 < σ hC 7 then 1 else 0) else 0) jx + 0 = sumF (fun jx => if σ (hC + 84 + jx) 0 = bo then (if wx = 0 then σ (hC + 84 + jx) 4 else if wx = 1 then σ (hC + 84 + jx) 5 else if wx = 2 then σ (hC + 84 + jx) 7 else if 0 < σ (hC + 84 + jx) 4 ∧ σ (hC + 84 + jx) 6 < σ hC 7 then 1 else 0) else 0) (jx + 1) := by
            rw [show sumF (fun jx => if σ (hC + 84 + jx) 0 = bo then (if wx = 0 then σ (hC + 84 + jx) 4 else if wx = 1 then σ (hC + 84 + jx) 5 else if wx = 2 then σ (hC + 84 + jx) 7 else if 0 < σ (hC + 84 + jx) 4 ∧ σ (hC + 84 + jx) 6 < σ hC 7 then 1 else 0) else 0) (jx + 1) = sumF (fun jx => if σ (hC + 84 + jx) 0 = bo then (if wx = 0 then σ (hC + 84 + jx) 4 else if wx = 1 then σ (hC + 84 + jx) 5 else if wx = 2 then σ (hC + 84 + jx) 7 else if 0 < σ (hC + 84 + jx) 4 ∧ σ (hC + 84 + jx) 6 < σ hC 7 then 1 else 0) else 0) jx + (((fun jx => if σ (hC + 84 + jx) 0 = bo then (if wx = 0 then σ (hC + 84 + jx) 4 else if wx = 1 then σ (hC + 84 + jx) 5 else if wx = 2 then σ (hC + 84 + jx) 7 else if 0 < σ (hC + 84 + jx) 4 ∧ σ (hC + 84 + jx) 6 < σ hC 7 then 1 else 0) else 0) : Nat → Int) jx) from rfl, show (((fun jx => if σ (hC + 84 + jx) 0 = bo then (if wx = 0 then σ (hC + 84 + jx) 4 else if wx = 1 then σ (hC + 84 + jx) 5 else if wx = 2 then σ (hC + 84 + jx) 7 else if 0 < σ (hC + 84 + jx) 4 ∧ σ (hC + 84 + jx) 6 < σ hC 7 then 1 else 0) else 0) : Nat → Int) jx) = 0 from if_neg br26]
          rw [hs1]
          exact ih (jx + 1) (by omega) (by omega)
        · refine r_al0 (q := 30) C dX6_sumOfLoans_29 rfl ?_
          refine r_getR (q := 33) C f_X6_30 dX6_sumOfLoans_30 rfl rfl (by assumption) (by assumption) (by omega) ?_
          refine r_il4 (q := 35) C dX6_sumOfLoans_33 rfl ?_
          refine r_aald (q := 36) C (jx) dX6_sumOfLoans_35 rfl (by assumption) (by omega) (by omega) (by omega) (by decide) (by assumption) rfl rfl (by decide) (by decide) ?_
          refine r_il2 (q := 37) C dX6_sumOfLoans_36 rfl ?_
          refine r_al0 (q := 38) C dX6_sumOfLoans_37 rfl ?_
          refine r_getI (q := 41) C f_X6_55 dX6_sumOfLoans_38 rfl rfl (by assumption) (by omega) ?_
          refine r_callV1 (q := 44) C (c_X7_number hLj1 (by omega) hw hdy hr2 hr3) m_X6_129 (by assumption) (by omega) dX6_sumOfLoans_41 rfl rfl (by decide) (by decide) (Nat.le_of_ble_eq_true rfl) ?_
          refine r_goto (q := 48) C dX6_sumOfLoans_44 (by decide) ?_
          refine r_iadd (q := 49) C dX6_sumOfLoans_48 rfl ?_
          refine r_is3 (q := 50) C dX6_sumOfLoans_49 rfl (by decide) ?_
          refine r_iinc4 (q := 53) C dX6_sumOfLoans_50 rfl (by decide) ?_
          refine r_goto (q := 5) C dX6_sumOfLoans_53 (by decide) ?_
          have hs1 : sumF (fun jx => if σ (hC + 84 + jx) 0 = bo then (if wx = 0 then σ (hC + 84 + jx) 4 else if wx = 1 then σ (hC + 84 + jx) 5 else if wx = 2 then σ (hC + 84 + jx) 7 else if 0 < σ (hC + 84 + jx) 4 ∧ σ (hC + 84 + jx) 6 < σ hC 7 then 1 else 0) else 0) jx + (if wx = 0 then σ (hC + 84 + jx) 4 else if wx = 1 then σ (hC + 84 + jx) 5 else if wx = 2 then σ (hC + 84 + jx) 7 else if 0 < σ (hC + 84 + jx) 4 ∧ σ (hC + 84 + jx) 6 < σ hC 7 then 1 else 0) = sumF (fun jx => if σ (hC + 84 + jx) 0 = bo then (if wx = 0 then σ (hC + 84 + jx) 4 else if wx = 1 then σ (hC + 84 + jx) 5 else if wx = 2 then σ (hC + 84 + jx) 7 else if 0 < σ (hC + 84 + jx) 4 ∧ σ (hC + 84 + jx) 6 < σ hC 7 then 1 else 0) else 0) (jx + 1) := by
            rw [show sumF (fun jx => if σ (hC + 84 + jx) 0 = bo then (if wx = 0 then σ (hC + 84 + jx) 4 else if wx = 1 then σ (hC + 84 + jx) 5 else if wx = 2 then σ (hC + 84 + jx) 7 else if 0 < σ (hC + 84 + jx) 4 ∧ σ (hC + 84 + jx) 6 < σ hC 7 then 1 else 0) else 0) (jx + 1) = sumF (fun jx => if σ (hC + 84 + jx) 0 = bo then (if wx = 0 then σ (hC + 84 + jx) 4 else if wx = 1 then σ (hC + 84 + jx) 5 else if wx = 2 then σ (hC + 84 + jx) 7 else if 0 < σ (hC + 84 + jx) 4 ∧ σ (hC + 84 + jx) 6 < σ hC 7 then 1 else 0) else 0) jx + (((fun jx => if σ (hC + 84 + jx) 0 = bo then (if wx = 0 then σ (hC + 84 + jx) 4 else if wx = 1 then σ (hC + 84 + jx) 5 else if wx = 2 then σ (hC + 84 + jx) 7 else if 0 < σ (hC + 84 + jx) 4 ∧ σ (hC + 84 + jx) 6 < σ hC 7 then 1 else 0) else 0) : Nat → Int) jx) from rfl, show (((fun jx => if σ (hC + 84 + jx) 0 = bo then (if wx = 0 then σ (hC + 84 + jx) 4 else if wx = 1 then σ (hC + 84 + jx) 5 else if wx = 2 then σ (hC + 84 + jx) 7 else if 0 < σ (hC + 84 + jx) 4 ∧ σ (hC + 84 + jx) 6 < σ hC 7 then 1 else 0) else 0) : Nat → Int) jx) = (if wx = 0 then σ (hC + 84 + jx) 4 else if wx = 1 then σ (hC + 84 + jx) 5 else if wx = 2 then σ (hC + 84 + jx) 7 else if 0 < σ (hC + 84 + jx) 4 ∧ σ (hC + 84 + jx) 6 < σ hC 7 then 1 else 0) from if_pos br26]
          rw [hs1]
          exact ih (jx + 1) (by omega) (by omega)
  refine r_iconst (q := 1) C dX6_sumOfLoans_0 rfl ?_
  refine r_is3 (q := 2) C dX6_sumOfLoans_1 rfl (by decide) ?_
  refine r_iconst (q := 3) C dX6_sumOfLoans_2 rfl ?_
  refine r_is4 (q := 5) C dX6_sumOfLoans_3 rfl (by decide) ?_
  exact lp _ 0 (Nat.lt_succ_self _) (by omega)
set_option maxRecDepth 20000 in
set_option maxHeartbeats 8000000 in
theorem c_X6_feesInAll {T : oT} {σ : oM} {hC Mn : Nat} (hH : oHd T hC) (hMn : σ hC 5 = (Mn : Int)) (hM20 : Mn ≤ 20) : MS yX6_feesInAll cX6_feesInAll 3 (some FieldType.int) 0 0 0 0 [og hC] T σ (oP1 (oi (sumF (fun jx => σ (hC + 84 + jx) 7) Mn)) T σ) := by
  have hHc := hH
  obtain ⟨hH0, hH1, hH2, hH3, hH4, hH6, hG1, hG80, hG81, hG82, hG83, hEs, hLs, hHT⟩ := hHc
  refine o_met (by decide +kernel) (Nat.le_of_ble_eq_true rfl) (fun p l ee s m args below meth c G b C hr hn => ?_)
  have C : oCx p s m args meth c G b RX6 cX6_feesInAll 3 := C
  show oW p l ee ({ frames := 0, cells := 0, slots := 0, locals := 0 } : Room) s m args below meth c G b 3 0 0 (MQ below (o_Qc G b (oP1 (oi (sumF (fun jx => σ (hC + 84 + jx) 7) Mn)) T σ)) args s 0 0 (fun q => b ≤ q)) T σ 0 [some (og hC), none, none] []
  have lp : ∀ (n : Nat) (jx : Nat), Mn - jx < n → (jx ≤ Mn) → oW p l ee ({ frames := 0, cells := 0, slots := 0, locals := 0 } : Room) s m args below meth c G b 3 0 0 (MQ below (o_Qc G b (oP1 (oi (sumF (fun jx => σ (hC + 84 + jx) 7) Mn)) T σ)) args s 0 0 (fun q => b ≤ q)) T σ 4 [some (og hC), some (oi (sumF (fun jx => σ (hC + 84 + jx) 7) jx)), some (oi ((jx : Nat) : Int))] [] := by
    intro n
    induction n with
    | zero =>
      intro jx hms
      exact absurd hms (Nat.not_lt_zero _)
    | succ n ih =>
      intro jx hms h1
      refine r_il2 (q := 5) C dX6_feesInAll_4 rfl ?_
      refine r_al0 (q := 6) C dX6_feesInAll_5 rfl ?_
      refine r_getI (q := 9) C f_X6_49 dX6_feesInAll_6 rfl rfl (by assumption) (by omega) ?_
      refine r_icge (q := 30) (q2 := 12) C (by omega) (by omega) dX6_feesInAll_9 (by decide) rfl (fun br9 => ?_) (fun br9 => ?_)
      · refine r_il1 (q := 31) C dX6_feesInAll_30 rfl ?_
        exact r_iret C hr dX6_feesInAll_31 (by decide) (by decide) ⟨by rw [show jx = Mn by omega], rfl, rfl⟩
      · refine r_il1 (q := 13) C dX6_feesInAll_12 rfl ?_
        refine r_al0 (q := 14) C dX6_feesInAll_13 rfl ?_
        refine r_getR (q := 17) C f_X6_30 dX6_feesInAll_14 rfl rfl (by assumption) (by assumption) (by omega) ?_
        refine r_il2 (q := 18) C dX6_feesInAll_17 rfl ?_
        have hLj0 := (hLs (jx) (by omega)).1
        have hLj1 := (hLs (jx) (by omega)).2
        refine r_aald (q := 19) C (jx) dX6_feesInAll_18 rfl (by assumption) (by omega) (by omega) (by omega) (by decide) (by assumption) rfl rfl (by decide) (by decide) ?_
        refine r_getI (q := 22) C f_X6_104 dX6_feesInAll_19 rfl rfl (by assumption) (by omega) ?_
        refine r_iadd (q := 23) C dX6_feesInAll_22 rfl ?_
        refine r_is1 (q := 24) C dX6_feesInAll_23 rfl (by decide) ?_
        refine r_iinc2 (q := 27) C dX6_feesInAll_24 rfl (by decide) ?_
        refine r_goto (q := 4) C dX6_feesInAll_27 (by decide) ?_
        exact ih (jx + 1) (by omega) (by omega)
  refine r_iconst (q := 1) C dX6_feesInAll_0 rfl ?_
  refine r_is1 (q := 2) C dX6_feesInAll_1 rfl (by decide) ?_
  refine r_iconst (q := 3) C dX6_feesInAll_2 rfl ?_
  refine r_is2 (q := 4) C dX6_feesInAll_3 rfl (by decide) ?_
  exact lp _ 0 (Nat.lt_succ_self _) (by omega)
set_option maxRecDepth 20000 in
set_option maxHeartbeats 8000000 in
theorem c_X6_openLoans {T : oT} {σ : oM} {hC Mn : Nat} (hH : oHd T hC) (hMn : σ hC 5 = (Mn : Int)) (hM20 : Mn ≤ 20) (hrg : ∀ jx, jx < Mn → o_r (σ (hC + 84 + jx) 4)) : MS yX6_openLoans cX6_openLoans 3 (some FieldType.int) 0 0 0 0 [og hC] T σ (oP1 (oi (sumF (fun jx => if 0 < σ (hC + 84 + jx) 4 then 1 else 0) Mn)) T σ) := by
  have hHc := hH
  obtain ⟨hH0, hH1, hH2, hH3, hH4, hH6, hG1, hG80, hG81, hG82, hG83, hEs, hLs, hHT⟩ := hHc
  refine o_met (by decide +kernel) (Nat.le_of_ble_eq_true rfl) (fun p l ee s m args below meth c G b C hr hn => ?_)
  have C : oCx p s m args meth c G b RX6 cX6_openLoans 3 := C
  show oW p l ee ({ frames := 0, cells := 0, slots := 0, locals := 0 } : Room) s m args below meth c G b 3 0 0 (MQ below (o_Qc G b (oP1 (oi (sumF (fun jx => if 0 < σ (hC + 84 + jx) 4 then 1 else 0) Mn)) T σ)) args s 0 0 (fun q => b ≤ q)) T σ 0 [some (og hC), none, none] []
  have lp : ∀ (n : Nat) (jx : Nat), Mn - jx < n → (jx ≤ Mn) → oW p l ee ({ frames := 0, cells := 0, slots := 0, locals := 0 } : Room) s m args below meth c G b 3 0 0 (MQ below (o_Qc G b (oP1 (oi (sumF (fun jx => if 0 < σ (hC + 84 + jx) 4 then 1 else 0) Mn)) T σ)) args s 0 0 (fun q => b ≤ q)) T σ 4 [some (og hC), some (oi (sumF (fun jx => if 0 < σ (hC + 84 + jx) 4 then 1 else 0) jx)), some (oi ((jx : Nat) : Int))] [] := by
    intro n
    induction n with
    | zero =>
      intro jx hms
      exact absurd hms (Nat.not_lt_zero _)
    | succ n ih =>
      intro jx hms h1
      refine r_il2 (q := 5) C dX6_openLoans_4 rfl ?_
      refine r_al0 (q := 6) C dX6_openLoans_5 rfl ?_
      refine r_getI (q := 9) C f_X6_49 dX6_openLoans_6 rfl rfl (by assumption) (by omega) ?_
      refine r_icge (q := 38) (q2 := 12) C (by omega) (by omega) dX6_openLoans_9 (by decide) rfl (fun br9 => ?_) (fun br9 => ?_)
      · refine r_il1 (q := 39) C dX6_openLoans_38 rfl ?_
        exact r_iret C hr dX6_openLoans_39 (by decide) (by decide) ⟨by rw [show jx = Mn by omega], rfl, rfl⟩
      · refine r_il1 (q := 13) C dX6_openLoans_12 rfl ?_
        refine r_al0 (q := 14) C dX6_openLoans_13 rfl ?_
        refine r_getR (q := 17) C f_X6_30 dX6_openLoans_14 rfl rfl (by assumption) (by assumption) (by omega) ?_
        refine r_il2 (q := 18) C dX6_openLoans_17 rfl ?_
        have hLj0 := (hLs (jx) (by omega)).1
        have hLj1 := (hLs (jx) (by omega)).2
        refine r_aald (q := 19) C (jx) dX6_openLoans_18 rfl (by assumption) (by omega) (by omega) (by omega) (by decide) (by assumption) rfl rfl (by decide) (by decide) ?_
        refine r_getI (q := 22) C f_X6_95 dX6_openLoans_19 rfl rfl (by assumption) (by omega) ?_
        refine r_ifle (q := 29) (q2 := 25) C (hrg jx (by omega)) dX6_openLoans_22 (by decide) rfl (fun br22 => ?_) (fun br22 => ?_)
        · refine r_iconst (q := 30) C dX6_openLoans_29 rfl ?_
          refine r_iadd (q := 31) C dX6_openLoans_30 rfl ?_
          refine r_is1 (q := 32) C dX6_openLoans_31 rfl (by decide) ?_
          refine r_iinc2 (q := 35) C dX6_openLoans_32 rfl (by decide) ?_
          refine r_goto (q := 4) C dX6_openLoans_35 (by decide) ?_
          have hs1 : sumF (fun jx => if 0 < σ (hC + 84 + jx) 4 then 1 else 0) jx + 0 = sumF (fun jx => if 0 < σ (hC + 84 + jx) 4 then 1 else 0) (jx + 1) := by
            rw [show sumF (fun jx => if 0 < σ (hC + 84 + jx) 4 then 1 else 0) (jx + 1) = sumF (fun jx => if 0 < σ (hC + 84 + jx) 4 then 1 else 0) jx + (((fun jx => if 0 < σ (hC + 84 + jx) 4 then 1 else 0) : Nat → Int) jx) from rfl, show (((fun jx => if 0 < σ (hC + 84 + jx) 4 then 1 else 0) : Nat → Int) jx) = 0 from if_neg (by omega)]
          rw [hs1]
          exact ih (jx + 1) (by omega) (by omega)
        · refine r_iconst (q := 26) C dX6_openLoans_25 rfl ?_
          refine r_goto (q := 30) C dX6_openLoans_26 (by decide) ?_
          refine r_iadd (q := 31) C dX6_openLoans_30 rfl ?_
          refine r_is1 (q := 32) C dX6_openLoans_31 rfl (by decide) ?_
          refine r_iinc2 (q := 35) C dX6_openLoans_32 rfl (by decide) ?_
          refine r_goto (q := 4) C dX6_openLoans_35 (by decide) ?_
          have hs1 : sumF (fun jx => if 0 < σ (hC + 84 + jx) 4 then 1 else 0) jx + 1 = sumF (fun jx => if 0 < σ (hC + 84 + jx) 4 then 1 else 0) (jx + 1) := by
            rw [show sumF (fun jx => if 0 < σ (hC + 84 + jx) 4 then 1 else 0) (jx + 1) = sumF (fun jx => if 0 < σ (hC + 84 + jx) 4 then 1 else 0) jx + (((fun jx => if 0 < σ (hC + 84 + jx) 4 then 1 else 0) : Nat → Int) jx) from rfl, show (((fun jx => if 0 < σ (hC + 84 + jx) 4 then 1 else 0) : Nat → Int) jx) = 1 from if_pos br22]
          rw [hs1]
          exact ih (jx + 1) (by omega) (by omega)
  refine r_iconst (q := 1) C dX6_openLoans_0 rfl ?_
  refine r_is1 (q := 2) C dX6_openLoans_1 rfl (by decide) ?_
  refine r_iconst (q := 3) C dX6_openLoans_2 rfl ?_
  refine r_is2 (q := 4) C dX6_openLoans_3 rfl (by decide) ?_
  exact lp _ 0 (Nat.lt_succ_self _) (by omega)
set_option maxRecDepth 20000 in
set_option maxHeartbeats 8000000 in
theorem c_X6_copiesInAll {T : oT} {σ : oM} {hC Nn : Nat} {wx : Int} (hH : oHd T hC) (hNn : σ hC 0 = (Nn : Int)) (hN6 : Nn ≤ 6) (hw : o_r wx) : MS yX6_copiesInAll cX6_copiesInAll 4 (some FieldType.int) 2 0 0 45 [og hC, oi wx] T σ (oP1 (oi (sumF (fun jx => sumF (fun ix => if wx = 1 then σ (hC + 2 + 13 * jx + 10) ix else if wx = 2 then σ (hC + 2 + 13 * jx + 11) ix else if wx = 3 then σ (hC + 2 + 13 * jx + 12) ix else σ (hC + 2 + 13 * jx + 10) ix + σ (hC + 2 + 13 * jx + 11) ix + σ (hC + 2 + 13 * jx + 12) ix) 6) Nn)) T σ) := by
  have hHc := hH
  obtain ⟨hH0, hH1, hH2, hH3, hH4, hH6, hG1, hG80, hG81, hG82, hG83, hEs, hLs, hHT⟩ := hHc
  refine o_met (by decide +kernel) (Nat.le_of_ble_eq_true rfl) (fun p l ee s m args below meth c G b C hr hn => ?_)
  have C : oCx p s m args meth c G b RX6 cX6_copiesInAll 4 := C
  show oW p l ee ({ frames := 2, cells := 0, slots := 0, locals := 45 } : Room) s m args below meth c G b 4 0 0 (MQ below (o_Qc G b (oP1 (oi (sumF (fun jx => sumF (fun ix => if wx = 1 then σ (hC + 2 + 13 * jx + 10) ix else if wx = 2 then σ (hC + 2 + 13 * jx + 11) ix else if wx = 3 then σ (hC + 2 + 13 * jx + 12) ix else σ (hC + 2 + 13 * jx + 10) ix + σ (hC + 2 + 13 * jx + 11) ix + σ (hC + 2 + 13 * jx + 12) ix) 6) Nn)) T σ)) args s 0 0 (fun q => b ≤ q)) T σ 0 [some (og hC), some (oi wx), none, none] []
  have lp : ∀ (n : Nat) (jx : Nat), Nn - jx < n → (jx ≤ Nn) → oW p l ee ({ frames := 2, cells := 0, slots := 0, locals := 45 } : Room) s m args below meth c G b 4 0 0 (MQ below (o_Qc G b (oP1 (oi (sumF (fun jx => sumF (fun ix => if wx = 1 then σ (hC + 2 + 13 * jx + 10) ix else if wx = 2 then σ (hC + 2 + 13 * jx + 11) ix else if wx = 3 then σ (hC + 2 + 13 * jx + 12) ix else σ (hC + 2 + 13 * jx + 10) ix + σ (hC + 2 + 13 * jx + 11) ix + σ (hC + 2 + 13 * jx + 12) ix) 6) Nn)) T σ)) args s 0 0 (fun q => b ≤ q)) T σ 4 [some (og hC), some (oi wx), some (oi (sumF (fun jx => sumF (fun ix => if wx = 1 then σ (hC + 2 + 13 * jx + 10) ix else if wx = 2 then σ (hC + 2 + 13 * jx + 11) ix else if wx = 3 then σ (hC + 2 + 13 * jx + 12) ix else σ (hC + 2 + 13 * jx + 10) ix + σ (hC + 2 + 13 * jx + 11) ix + σ (hC + 2 + 13 * jx + 12) ix) 6) jx)), some (oi ((jx : Nat) : Int))] [] := by
    intro n
    induction n with
    | zero =>
      intro jx hms
      exact absurd hms (Nat.not_lt_zero _)
    | succ n ih =>
      intro jx hms h1
      refine r_il3 (q := 5) C dX6_copiesInAll_4 rfl ?_
      refine r_al0 (q := 6) C dX6_copiesInAll_5 rfl ?_
      refine r_getI (q := 9) C f_X6_35 dX6_copiesInAll_6 rfl rfl (by assumption) (by omega) ?_
      refine r_icge (q := 31) (q2 := 12) C (by omega) (by omega) dX6_copiesInAll_9 (by decide) rfl (fun br9 => ?_) (fun br9 => ?_)
      · refine r_il2 (q := 32) C dX6_copiesInAll_31 rfl ?_
        exact r_iret C hr dX6_copiesInAll_32 (by decide) (by decide) ⟨by rw [show jx = Nn by omega], rfl, rfl⟩
      · refine r_il2 (q := 13) C dX6_copiesInAll_12 rfl ?_
        refine r_al0 (q := 14) C dX6_copiesInAll_13 rfl ?_
        refine r_getR (q := 17) C f_X6_11 dX6_copiesInAll_14 rfl rfl (by assumption) (by assumption) (by omega) ?_
        refine r_il3 (q := 18) C dX6_copiesInAll_17 rfl ?_
        have hEj0 := (hEs (jx) (by omega)).1
        have hEd := (hEs (jx) (by omega)).2
        have hEj1 := hEd.1
        refine r_aald (q := 19) C (jx) dX6_copiesInAll_18 rfl (by assumption) (by omega) (by omega) (by omega) (by decide) (by assumption) rfl rfl (by decide) (by decide) ?_
        refine r_il1 (q := 20) C dX6_copiesInAll_19 rfl ?_
        refine r_callV1 (q := 23) C (c_X4_copiesInAll hEd hw) m_X6_132 (by assumption) (by omega) dX6_copiesInAll_20 rfl rfl (by decide) (by decide) (Nat.le_of_ble_eq_true rfl) ?_
        refine r_iadd (q := 24) C dX6_copiesInAll_23 rfl ?_
        refine r_is2 (q := 25) C dX6_copiesInAll_24 rfl (by decide) ?_
        refine r_iinc3 (q := 28) C dX6_copiesInAll_25 rfl (by decide) ?_
        refine r_goto (q := 4) C dX6_copiesInAll_28 (by decide) ?_
        exact ih (jx + 1) (by omega) (by omega)
  refine r_iconst (q := 1) C dX6_copiesInAll_0 rfl ?_
  refine r_is2 (q := 2) C dX6_copiesInAll_1 rfl (by decide) ?_
  refine r_iconst (q := 3) C dX6_copiesInAll_2 rfl ?_
  refine r_is3 (q := 4) C dX6_copiesInAll_3 rfl (by decide) ?_
  exact lp _ 0 (Nat.lt_succ_self _) (by omega)
set_option maxRecDepth 20000 in
set_option maxHeartbeats 8000000 in
theorem c_X6_becomeLike {T : oT} {σ : oM} {tC sC Nn Mn : Nat} (hH : oHd T tC) (hS : oHd T sC) (hdis : tC + 104 ≤ sC ∨ sC + 104 ≤ tC) (hNn : σ sC 0 = (Nn : Int)) (hN6 : Nn ≤ 6) (hMn : σ sC 5 = (Mn : Int)) (hM20 : Mn ≤ 20) (hbs : ∀ jx, jx < Nn → ∃ Bn : Nat, σ (sC + 2 + 13 * jx) 2 = (Bn : Int) ∧ Bn ≤ 99) : MS yX6_becomeLike cX6_becomeLike 3 none 3 0 0 74 [og tC, og sC] T σ (oPv (fun σ2 => hdLike σ2 tC σ sC Nn Mn) T) := by
  have hHc := hH
  obtain ⟨hH0, hH1, hH2, hH3, hH4, hH6, hG1, hG80, hG81, hG82, hG83, hEs, hLs, hHT⟩ := hHc
  have hSc := hS
  obtain ⟨hS0, hS1, hS2, hS3, hS4, hS6, hSG1, hSG80, hSG81, hSG82, hSG83, hSEs, hSLs, hST⟩ := hSc
  refine o_met (by decide +kernel) (Nat.le_of_ble_eq_true rfl) (fun p l ee s m args below meth c G b C hr hn => ?_)
  have C : oCx p s m args meth c G b RX6 cX6_becomeLike 3 := C
  show oW p l ee ({ frames := 3, cells := 0, slots := 0, locals := 74 } : Room) s m args below meth c G b 3 0 0 (MQ below (o_Qc G b (oPv (fun σ2 => hdLike σ2 tC σ sC Nn Mn) T)) args s 0 0 (fun q => b ≤ q)) T σ 0 [some (og tC), some (og sC), none] []
  have lp2 : ∀ (n : Nat) (σx : oM) (jx : Nat), Mn - jx < n → (jx ≤ Mn) → (σx tC 0 = σ sC 0) → (σx tC 5 = (Mn : Int)) → ((∀ ix, ix < 4 → σx (tC + 80) ix = σ (sC + 80) ix ∧ σx (tC + 81) ix = σ (sC + 81) ix) ∧ (∀ ix, ix < 6 → σx (tC + 82) ix = σ (sC + 82) ix)) → (∀ ix, ix < Nn → edLike σx (tC + 2 + 13 * ix) σ (sC + 2 + 13 * ix)) → (∀ ix, ix < jx → ∀ kx, kx < 8 → σx (tC + 84 + ix) kx = σ (sC + 84 + ix) kx) → (∀ x, (x < tC ∨ tC + 84 + jx ≤ x) → σx x = σ x) → oW p l ee ({ frames := 3, cells := 0, slots := 0, locals := 74 } : Room) s m args below meth c G b 3 0 0 (MQ below (o_Qc G b (oPv (fun σ2 => hdLike σ2 tC σ sC Nn Mn) T)) args s 0 0 (fun q => b ≤ q)) T σx 92 [some (og tC), some (og sC), some (oi ((jx : Nat) : Int))] [] := by
    intro n
    induction n with
    | zero =>
      intro σx jx hms
      exact absurd hms (Nat.not_lt_zero _)
    | succ n ih =>
      intro σx jx hms h1 h2 h3 h4 h5 h6 h7
      refine r_il2 (q := 93) C dX6_becomeLike_92 rfl ?_
      refine r_al0 (q := 94) C dX6_becomeLike_93 rfl ?_
      refine r_getI (q := 97) C f_X6_49 dX6_becomeLike_94 rfl rfl (by assumption) (by omega) ?_
      refine r_icge (q := 121) (q2 := 100) C (by omega) (by omega) dX6_becomeLike_97 (by decide) rfl (fun br97 => ?_) (fun br97 => ?_)
      · refine r_al0 (q := 122) C dX6_becomeLike_121 rfl ?_
        refine r_al1 (q := 123) C dX6_becomeLike_122 rfl ?_
        refine r_getI (q := 126) C f_X6_55 dX6_becomeLike_123 rfl rfl (by assumption) (by omega) ?_
        refine r_putI (q := 129) C fp_X6_55 dX6_becomeLike_126 rfl rfl (by assumption) (by omega) ?_
        refine r_vret C hr dX6_becomeLike_129 (by decide) (by decide) ?_
        refine ⟨rfl, rfl, ?_⟩
        have hsd : σx sC = σ sC := h7 _ (by omega)
        refine ⟨by rw [o_up_nj (Or.inr (by decide))]; exact h2, by rw [o_up_nj (Or.inr (by decide)), h3]; exact hMn.symm, by rw [o_up_at, hsd], fun ix hix => by rw [o_up_ne (by omega), o_up_ne (by omega)]; exact h4.1 ix hix, fun ix hix => by rw [o_up_ne (by omega)]; exact h4.2 ix hix, fun ix hix => edLike_fr (h5 ix hix) (fun x g1 g2 => o_up_ne (by omega)), fun ix hix kx hk => by rw [o_up_ne (by omega)]; exact h6 ix (by omega) kx hk, fun x hx => by rw [o_up_ne (by omega)]; exact h7 x (by omega)⟩
      · refine r_al0 (q := 101) C dX6_becomeLike_100 rfl ?_
        refine r_getR (q := 104) C f_X6_30 dX6_becomeLike_101 rfl rfl (by assumption) (by assumption) (by omega) ?_
        refine r_il2 (q := 105) C dX6_becomeLike_104 rfl ?_
        have hLj0 := (hLs jx (by omega)).1
        have hLj1 := (hLs jx (by omega)).2
        have hSj0 := (hSLs jx (by omega)).1
        have hSj1 := (hSLs jx (by omega)).2
        refine r_aald (q := 106) C (jx) dX6_becomeLike_105 rfl (by assumption) (by omega) (by omega) (by omega) (by decide) (by assumption) rfl rfl (by decide) (by decide) ?_
        refine r_al1 (q := 107) C dX6_becomeLike_106 rfl ?_
        refine r_getR (q := 110) C f_X6_30 dX6_becomeLike_107 rfl rfl (by assumption) (by assumption) (by omega) ?_
        refine r_il2 (q := 111) C dX6_becomeLike_110 rfl ?_
        refine r_aald (q := 112) C (jx) dX6_becomeLike_111 rfl (by assumption) (by omega) (by omega) (by omega) (by decide) (by assumption) rfl rfl (by decide) (by decide) ?_
        refine r_callVv (q := 115) C (c_X7_becomeLike hLj1 (by omega) hSj1 (by omega) (by omega)) m_X6_52 (by assumption) (by omega) dX6_becomeLike_112 rfl rfl (by decide) (by decide) (Nat.le_of_ble_eq_true rfl) (fun σ2 hσ2 => ?_)
        subst hσ2
        refine r_iinc2 (q := 118) C dX6_becomeLike_115 rfl (by decide) ?_
        refine r_goto (q := 92) C dX6_becomeLike_118 (by decide) ?_
        have hsj : σx (sC + 84 + jx) = σ (sC + 84 + jx) := h7 _ (by omega)
        refine ih _ (jx + 1) (by omega) (by omega) (by rw [o_lnc_ne (by omega)]; exact h2) (by rw [o_lnc_ne (by omega)]; exact h3) ⟨fun ix hix => by rw [o_lnc_ne (by omega), o_lnc_ne (by omega)]; exact h4.1 ix hix, fun ix hix => by rw [o_lnc_ne (by omega)]; exact h4.2 ix hix⟩ (fun ix hix => edLike_fr (h5 ix hix) (fun x g1 g2 => o_lnc_ne (by omega))) (fun ix hix kx hk => ?_) (fun x hx => by rw [o_lnc_ne (by omega)]; exact h7 x (by omega))
        rcases (show ix < jx ∨ ix = jx by omega) with hc | hc
        · rw [o_lnc_ne (by omega)]
          exact h6 ix hc kx hk
        · subst hc
          rw [o_lnc_at, hsj]
          rcases (show kx = 0 ∨ kx = 1 ∨ kx = 2 ∨ kx = 3 ∨ kx = 4 ∨ kx = 5 ∨ kx = 6 ∨ kx = 7 by omega) with hk1 | hk1 | hk1 | hk1 | hk1 | hk1 | hk1 | hk1 <;> subst hk1 <;> rfl
  have lp1 : ∀ (n : Nat) (σx : oM) (jx : Nat), Nn - jx < n → (jx ≤ Nn) → (σx tC 0 = (Nn : Int)) → (∀ ix, ix < jx → edLike σx (tC + 2 + 13 * ix) σ (sC + 2 + 13 * ix)) → (∀ x, (x < tC ∨ tC + 2 + 13 * jx ≤ x) → σx x = σ x) → oW p l ee ({ frames := 3, cells := 0, slots := 0, locals := 74 } : Room) s m args below meth c G b 3 0 0 (MQ below (o_Qc G b (oPv (fun σ2 => hdLike σ2 tC σ sC Nn Mn) T)) args s 0 0 (fun q => b ≤ q)) T σx 10 [some (og tC), some (og sC), some (oi ((jx : Nat) : Int))] [] := by
    intro n
    induction n with
    | zero =>
      intro σx jx hms
      exact absurd hms (Nat.not_lt_zero _)
    | succ n ih =>
      intro σx jx hms h1 h2 h3 h4
      refine r_il2 (q := 11) C dX6_becomeLike_10 rfl ?_
      refine r_al0 (q := 12) C dX6_becomeLike_11 rfl ?_
      refine r_getI (q := 15) C f_X6_35 dX6_becomeLike_12 rfl rfl (by assumption) (by omega) ?_
      refine r_icge (q := 39) (q2 := 18) C (by omega) (by omega) dX6_becomeLike_15 (by decide) rfl (fun br15 => ?_) (fun br15 => ?_)
      · obtain rfl : jx = Nn := by omega
        refine r_al1 (q := 40) C dX6_becomeLike_39 rfl ?_
        refine r_getR (q := 43) C f_X6_18 dX6_becomeLike_40 rfl rfl (by assumption) (by assumption) (by omega) ?_
        refine r_iconst (q := 44) C dX6_becomeLike_43 rfl ?_
        refine r_al0 (q := 45) C dX6_becomeLike_44 rfl ?_
        refine r_getR (q := 48) C f_X6_18 dX6_becomeLike_45 rfl rfl (by assumption) (by assumption) (by omega) ?_
        refine r_iconst (q := 49) C dX6_becomeLike_48 rfl ?_
        refine r_iconst (q := 50) C dX6_becomeLike_49 rfl ?_
        refine r_copy (q := 53) C (0) (0) (4) w_copy_X6 dX6_becomeLike_50 rfl (by assumption) (by omega) (by assumption) (by omega) (by omega) (by omega) (by omega) (by omega) (by omega) (by decide) (by decide) (by decide) (by decide) ?_
        refine r_al1 (q := 54) C dX6_becomeLike_53 rfl ?_
        refine r_getR (q := 57) C f_X6_22 dX6_becomeLike_54 rfl rfl (by assumption) (by assumption) (by omega) ?_
        refine r_iconst (q := 58) C dX6_becomeLike_57 rfl ?_
        refine r_al0 (q := 59) C dX6_becomeLike_58 rfl ?_
        refine r_getR (q := 62) C f_X6_22 dX6_becomeLike_59 rfl rfl (by assumption) (by assumption) (by omega) ?_
        refine r_iconst (q := 63) C dX6_becomeLike_62 rfl ?_
        refine r_iconst (q := 64) C dX6_becomeLike_63 rfl ?_
        refine r_copy (q := 67) C (0) (0) (4) w_copy_X6 dX6_becomeLike_64 rfl (by assumption) (by omega) (by assumption) (by omega) (by omega) (by omega) (by omega) (by omega) (by omega) (by decide) (by decide) (by decide) (by decide) ?_
        refine r_al1 (q := 68) C dX6_becomeLike_67 rfl ?_
        refine r_getR (q := 71) C f_X6_25 dX6_becomeLike_68 rfl rfl (by assumption) (by assumption) (by omega) ?_
        refine r_iconst (q := 72) C dX6_becomeLike_71 rfl ?_
        refine r_al0 (q := 73) C dX6_becomeLike_72 rfl ?_
        refine r_getR (q := 76) C f_X6_25 dX6_becomeLike_73 rfl rfl (by assumption) (by assumption) (by omega) ?_
        refine r_iconst (q := 77) C dX6_becomeLike_76 rfl ?_
        refine r_bipush (q := 79) C dX6_becomeLike_77 (by decide) rfl ?_
        refine r_copy (q := 82) C (0) (0) (6) w_copy_X6 dX6_becomeLike_79 rfl (by assumption) (by omega) (by assumption) (by omega) (by omega) (by omega) (by omega) (by omega) (by omega) (by decide) (by decide) (by decide) (by decide) ?_
        refine r_al0 (q := 83) C dX6_becomeLike_82 rfl ?_
        refine r_al1 (q := 84) C dX6_becomeLike_83 rfl ?_
        refine r_getI (q := 87) C f_X6_49 dX6_becomeLike_84 rfl rfl (by assumption) (by omega) ?_
        refine r_putI (q := 90) C fp_X6_49 dX6_becomeLike_87 rfl rfl (by assumption) (by omega) ?_
        refine r_iconst (q := 91) C dX6_becomeLike_90 rfl ?_
        refine r_is2 (q := 92) C dX6_becomeLike_91 rfl (by decide) ?_
        refine lp2 _ _ 0 (Nat.lt_succ_self _) (by omega) ?_ ?_ ⟨fun ix hix => ⟨?_, ?_⟩, fun ix hix => ?_⟩ (fun ix hix => ?_) (fun ix hix => absurd hix (Nat.not_lt_zero _)) (fun x hx => ?_)
        · rw [o_up_nj (Or.inr (by decide)), o_cp_ne (by omega), o_cp_ne (by omega), o_cp_ne (by omega), h2, hNn]
        · rw [o_up_at, o_cp_ne (by omega), o_cp_ne (by omega), o_cp_ne (by omega), h4 _ (by omega)]
          exact hMn
        · rw [o_up_ne (by omega), o_cp_ne (by omega), o_cp_ne (by omega), o_cp_in (by omega) (by omega), h4 _ (by omega), show 0 + (ix - 0) = ix by omega]
        · rw [o_up_ne (by omega), o_cp_ne (by omega), o_cp_in (by omega) (by omega), o_cp_ne (by omega), h4 _ (by omega), show 0 + (ix - 0) = ix by omega]
        · rw [o_up_ne (by omega), o_cp_in (by omega) (by omega), o_cp_ne (by omega), o_cp_ne (by omega), h4 _ (by omega), show 0 + (ix - 0) = ix by omega]
        · exact edLike_fr (h3 ix hix) (fun x g1 g2 => by rw [o_up_ne (by omega), o_cp_ne (by omega), o_cp_ne (by omega), o_cp_ne (by omega)])
        · rw [o_up_ne (by omega), o_cp_ne (by omega), o_cp_ne (by omega), o_cp_ne (by omega)]
          exact h4 x (by omega)
      · refine r_al0 (q := 19) C dX6_becomeLike_18 rfl ?_
        refine r_getR (q := 22) C f_X6_11 dX6_becomeLike_19 rfl rfl (by assumption) (by assumption) (by omega) ?_
        refine r_il2 (q := 23) C dX6_becomeLike_22 rfl ?_
        have hEj0 := (hEs jx (by omega)).1
        have hEd := (hEs jx (by omega)).2
        have hEj1 := hEd.1
        have hSj0 := (hSEs jx (by omega)).1
        have hSd := (hSEs jx (by omega)).2
        obtain ⟨Bn, hb1, hb2⟩ := hbs jx (by omega)
        have hsj : σx (sC + 2 + 13 * jx) = σ (sC + 2 + 13 * jx) := h4 _ (by omega)
        refine r_aald (q := 24) C (jx) dX6_becomeLike_23 rfl (by assumption) (by omega) (by omega) (by omega) (by decide) (by assumption) rfl rfl (by decide) (by decide) ?_
        refine r_al1 (q := 25) C dX6_becomeLike_24 rfl ?_
        refine r_getR (q := 28) C f_X6_11 dX6_becomeLike_25 rfl rfl (by assumption) (by assumption) (by omega) ?_
        refine r_il2 (q := 29) C dX6_becomeLike_28 rfl ?_
        refine r_aald (q := 30) C (jx) dX6_becomeLike_29 rfl (by assumption) (by omega) (by omega) (by omega) (by decide) (by assumption) rfl rfl (by decide) (by decide) ?_
        refine r_callVv (q := 33) C (c_X4_becomeLike (Bn := Bn) hEd hSd (by omega) (by rw [hsj]; exact hb1) hb2) m_X6_39 (by assumption) (by omega) dX6_becomeLike_30 rfl rfl (by decide) (by decide) (Nat.le_of_ble_eq_true rfl) (fun σ2 hσ2 => ?_)
        subst hσ2
        refine r_iinc2 (q := 36) C dX6_becomeLike_33 rfl (by decide) ?_
        refine r_goto (q := 10) C dX6_becomeLike_36 (by decide) ?_
        refine ih _ (jx + 1) (by omega) (by omega) (by rw [o_like_ne (by omega)]; exact h2) (fun ix hix => ?_) (fun x hx => by rw [o_like_ne (by omega)]; exact h4 x (by omega))
        rcases (show ix < jx ∨ ix = jx by omega) with hc | hc
        · exact edLike_fr (h3 ix hc) (fun x g1 g2 => o_like_ne (by omega))
        · subst hc
          exact edLike_src (o_like_ed (by omega) (by rw [hsj]; exact hb1)) (fun x g1 g2 => h4 x (by omega))
  refine r_al0 (q := 1) C dX6_becomeLike_0 rfl ?_
  refine r_al1 (q := 2) C dX6_becomeLike_1 rfl ?_
  refine r_getI (q := 5) C f_X6_35 dX6_becomeLike_2 rfl rfl (by assumption) (by omega) ?_
  refine r_putI (q := 8) C fp_X6_35 dX6_becomeLike_5 rfl rfl (by assumption) (by omega) ?_
  refine r_iconst (q := 9) C dX6_becomeLike_8 rfl ?_
  refine r_is2 (q := 10) C dX6_becomeLike_9 rfl (by decide) ?_
  exact lp1 _ _ 0 (Nat.lt_succ_self _) (by omega) (by rw [o_up_at]; exact hNn) (fun ix hix => absurd hix (Nat.not_lt_zero _)) (fun x hx => o_up_ne (by omega))
set_option maxRecDepth 20000 in
set_option maxHeartbeats 8000000 in
theorem c_X6_addFirst {T : oT} {σ : oM} {hC Nn wN Bn : Nat} {btx : Int} (hH : oHd T hC) (hNn : σ hC 0 = (Nn : Int)) (hN6 : Nn < 6) (hwN : wN < 4) (hB1 : 1 ≤ Bn) (hB2 : Bn ≤ 99) : MS yX6_addFirst cX6_addFirst 5 (some FieldType.int) 2 0 0 49 [og hC, oi ((wN : Nat) : Int), oi ((Bn : Nat) : Int), oi btx] T σ (oPs (fun zx σ2 => zx = (Nn : Int) ∧ σ2 = o_up (o_up (o_up (o_clr (o_fl (o_up (o_up (o_up σ (hC + 2 + 13 * Nn) 0 (wN : Int)) (hC + 2 + 13 * Nn) 1 (-7)) (hC + 2 + 13 * Nn) 2 (Bn : Int)) (hC + 2 + 13 * Nn) 1 (Bn + 1) 0 0 btx 1) (hC + 2 + 13 * Nn) 6) (hC + 80) wN (Bn : Int)) (hC + 81) wN 0) hC 0 ((Nn : Int) + 1)) T) := by
  have hHc := hH
  obtain ⟨hH0, hH1, hH2, hH3, hH4, hH6, hG1, hG80, hG81, hG82, hG83, hEs, hLs, hHT⟩ := hHc
  refine o_met (by decide +kernel) (Nat.le_of_ble_eq_true rfl) (fun p l ee s m args below meth c G b C hr hn => ?_)
  have C : oCx p s m args meth c G b RX6 cX6_addFirst 5 := C
  show oW p l ee ({ frames := 2, cells := 0, slots := 0, locals := 49 } : Room) s m args below meth c G b 5 0 0 (MQ below (o_Qc G b (oPs (fun zx σ2 => zx = (Nn : Int) ∧ σ2 = o_up (o_up (o_up (o_clr (o_fl (o_up (o_up (o_up σ (hC + 2 + 13 * Nn) 0 (wN : Int)) (hC + 2 + 13 * Nn) 1 (-7)) (hC + 2 + 13 * Nn) 2 (Bn : Int)) (hC + 2 + 13 * Nn) 1 (Bn + 1) 0 0 btx 1) (hC + 2 + 13 * Nn) 6) (hC + 80) wN (Bn : Int)) (hC + 81) wN 0) hC 0 ((Nn : Int) + 1)) T)) args s 0 0 (fun q => b ≤ q)) T σ 0 [some (og hC), some (oi ((wN : Nat) : Int)), some (oi ((Bn : Nat) : Int)), some (oi btx), none] []
  refine r_al0 (q := 1) C dX6_addFirst_0 rfl ?_
  refine r_getI (q := 4) C f_X6_35 dX6_addFirst_1 rfl rfl (by assumption) (by omega) ?_
  rw [hNn]
  refine r_is4 (q := 6) C dX6_addFirst_4 rfl (by decide) ?_
  refine r_al0 (q := 7) C dX6_addFirst_6 rfl ?_
  refine r_getR (q := 10) C f_X6_11 dX6_addFirst_7 rfl rfl (by assumption) (by assumption) (by omega) ?_
  refine r_il4 (q := 12) C dX6_addFirst_10 rfl ?_
  have hEj0 := (hEs (Nn) (by omega)).1
  have hEd := (hEs (Nn) (by omega)).2
  have hEj1 := hEd.1
  refine r_aald (q := 13) C (Nn) dX6_addFirst_12 rfl (by assumption) (by omega) (by omega) (by omega) (by decide) (by assumption) rfl rfl (by decide) (by decide) ?_
  refine r_il1 (q := 14) C dX6_addFirst_13 rfl ?_
  refine r_il2 (q := 15) C dX6_addFirst_14 rfl ?_
  refine r_il3 (q := 16) C dX6_addFirst_15 rfl ?_
  refine r_callVv (q := 19) C (c_X4_becomeFirst hEd hB1 hB2) m_X6_61 (by assumption) (by omega) dX6_addFirst_16 rfl rfl (by decide) (by decide) (Nat.le_of_ble_eq_true rfl) (fun σ2 hσ2 => ?_)
  subst hσ2
  refine r_al0 (q := 20) C dX6_addFirst_19 rfl ?_
  refine r_getR (q := 23) C f_X6_18 dX6_addFirst_20 rfl rfl (by assumption) (by assumption) (by omega) ?_
  refine r_il1 (q := 24) C dX6_addFirst_23 rfl ?_
  refine r_il2 (q := 25) C dX6_addFirst_24 rfl ?_
  refine r_iast (q := 26) C (wN) dX6_addFirst_25 rfl (by assumption) (by omega) (by omega) (by omega) (by decide) ?_
  refine r_al0 (q := 27) C dX6_addFirst_26 rfl ?_
  refine r_getR (q := 30) C f_X6_22 dX6_addFirst_27 rfl rfl (by assumption) (by assumption) (by omega) ?_
  refine r_il1 (q := 31) C dX6_addFirst_30 rfl ?_
  refine r_iconst (q := 32) C dX6_addFirst_31 rfl ?_
  refine r_iast (q := 33) C (wN) dX6_addFirst_32 rfl (by assumption) (by omega) (by omega) (by omega) (by decide) ?_
  refine r_al0 (q := 34) C dX6_addFirst_33 rfl ?_
  refine r_dup (q := 35) C dX6_addFirst_34 rfl ?_
  refine r_getI (q := 38) C f_X6_35 dX6_addFirst_35 rfl rfl (by assumption) (by omega) ?_
  refine r_iconst (q := 39) C dX6_addFirst_38 rfl ?_
  refine r_iadd (q := 40) C dX6_addFirst_39 rfl ?_
  rw [show o_up (o_up (o_clr (o_fl (o_up (o_up (o_up σ (hC + 2 + 13 * Nn) 0 (wN : Int)) (hC + 2 + 13 * Nn) 1 (-7)) (hC + 2 + 13 * Nn) 2 (Bn : Int)) (hC + 2 + 13 * Nn) 1 (Bn + 1) 0 0 btx 1) (hC + 2 + 13 * Nn) 6) (hC + 80) wN (Bn : Int)) (hC + 81) wN 0 hC 0 = (Nn : Int) by rw [o_up_ne (by omega), o_up_ne (by omega), o_clr_ne (by omega), o_fl_ne (by rw [rowK_f]; omega), o_up_ne (by omega), o_up_ne (by omega), o_up_ne (by omega)]; exact hNn]
  refine r_putI (q := 43) C fp_X6_35 dX6_addFirst_40 rfl rfl (by assumption) (by omega) ?_
  refine r_il4 (q := 45) C dX6_addFirst_43 rfl ?_
  exact r_iret C hr dX6_addFirst_45 (by decide) (by decide) ⟨_, rfl, rfl, rfl, rfl⟩
set_option maxRecDepth 20000 in
set_option maxHeartbeats 8000000 in
theorem c_X6_addCopy {T : oT} {σ : oM} {hC Nn kN Bn : Nat} (hH : oHd T hC) (hNn : σ hC 0 = (Nn : Int)) (hN6 : Nn < 6) (hkN : kN < Nn) (hBn : σ (hC + 2 + 13 * kN) 2 = (Bn : Int)) (hB2 : Bn ≤ 99) : MS yX6_addCopy cX6_addCopy 3 (some FieldType.int) 4 0 0 96 [og hC, oi ((kN : Nat) : Int)] T σ (oPs (fun zx σ2 => zx = (Nn : Int) ∧ σ2 = o_up (o_clr (o_up (o_like σ (hC + 2 + 13 * Nn) (hC + 2 + 13 * kN) Bn) (hC + 2 + 13 * Nn) 1 (kN : Int)) (hC + 2 + 13 * Nn) 6) hC 0 ((Nn : Int) + 1)) T) := by
  have hHc := hH
  obtain ⟨hH0, hH1, hH2, hH3, hH4, hH6, hG1, hG80, hG81, hG82, hG83, hEs, hLs, hHT⟩ := hHc
  refine o_met (by decide +kernel) (Nat.le_of_ble_eq_true rfl) (fun p l ee s m args below meth c G b C hr hn => ?_)
  have C : oCx p s m args meth c G b RX6 cX6_addCopy 3 := C
  show oW p l ee ({ frames := 4, cells := 0, slots := 0, locals := 96 } : Room) s m args below meth c G b 3 0 0 (MQ below (o_Qc G b (oPs (fun zx σ2 => zx = (Nn : Int) ∧ σ2 = o_up (o_clr (o_up (o_like σ (hC + 2 + 13 * Nn) (hC + 2 + 13 * kN) Bn) (hC + 2 + 13 * Nn) 1 (kN : Int)) (hC + 2 + 13 * Nn) 6) hC 0 ((Nn : Int) + 1)) T)) args s 0 0 (fun q => b ≤ q)) T σ 0 [some (og hC), some (oi ((kN : Nat) : Int)), none] []
  refine r_al0 (q := 1) C dX6_addCopy_0 rfl ?_
  refine r_getI (q := 4) C f_X6_35 dX6_addCopy_1 rfl rfl (by assumption) (by omega) ?_
  rw [hNn]
  refine r_is2 (q := 5) C dX6_addCopy_4 rfl (by decide) ?_
  refine r_al0 (q := 6) C dX6_addCopy_5 rfl ?_
  refine r_getR (q := 9) C f_X6_11 dX6_addCopy_6 rfl rfl (by assumption) (by assumption) (by omega) ?_
  refine r_il2 (q := 10) C dX6_addCopy_9 rfl ?_
  have hEj0 := (hEs (Nn) (by omega)).1
  have hEd := (hEs (Nn) (by omega)).2
  have hEj1 := hEd.1
  have hEj0k := (hEs (kN) (by omega)).1
  have hEdk := (hEs (kN) (by omega)).2
  have hEj1k := hEdk.1
  refine r_aald (q := 11) C (Nn) dX6_addCopy_10 rfl (by assumption) (by omega) (by omega) (by omega) (by decide) (by assumption) rfl rfl (by decide) (by decide) ?_
  refine r_al0 (q := 12) C dX6_addCopy_11 rfl ?_
  refine r_getR (q := 15) C f_X6_11 dX6_addCopy_12 rfl rfl (by assumption) (by assumption) (by omega) ?_
  refine r_il1 (q := 16) C dX6_addCopy_15 rfl ?_
  refine r_aald (q := 17) C (kN) dX6_addCopy_16 rfl (by assumption) (by omega) (by omega) (by omega) (by decide) (by assumption) rfl rfl (by decide) (by decide) ?_
  refine r_il1 (q := 18) C dX6_addCopy_17 rfl ?_
  refine r_callVv (q := 21) C (c_X4_becomeCopy hEd hEdk (by omega) hBn hB2) m_X6_65 (by assumption) (by omega) dX6_addCopy_18 rfl rfl (by decide) (by decide) (Nat.le_of_ble_eq_true rfl) (fun σ2 hσ2 => ?_)
  subst hσ2
  refine r_al0 (q := 22) C dX6_addCopy_21 rfl ?_
  refine r_dup (q := 23) C dX6_addCopy_22 rfl ?_
  refine r_getI (q := 26) C f_X6_35 dX6_addCopy_23 rfl rfl (by assumption) (by omega) ?_
  refine r_iconst (q := 27) C dX6_addCopy_26 rfl ?_
  refine r_iadd (q := 28) C dX6_addCopy_27 rfl ?_
  rw [show o_clr (o_up (o_like σ (hC + 2 + 13 * Nn) (hC + 2 + 13 * kN) Bn) (hC + 2 + 13 * Nn) 1 (kN : Int)) (hC + 2 + 13 * Nn) 6 hC 0 = (Nn : Int) by rw [o_clr_ne (by omega), o_up_ne (by omega), o_like_ne (by omega)]; exact hNn]
  refine r_putI (q := 31) C fp_X6_35 dX6_addCopy_28 rfl rfl (by assumption) (by omega) ?_
  refine r_il2 (q := 32) C dX6_addCopy_31 rfl ?_
  exact r_iret C hr dX6_addCopy_32 (by decide) (by decide) ⟨_, rfl, rfl, rfl, rfl⟩
