theorem w_copy_X4 : Cond.methodLink RX4 63 arraycopyName ∈ oALL ∧ Cond.native arraycopyName ∈ oALL ∧ Cond.static arraycopyName ∈ oALL ∧ Cond.initialized "java/lang/System" ∈ oALL := ⟨o_t2 142 rfl rfl, o_t2 144 rfl rfl, o_t2 143 rfl rfl, o_t1 11 rfl rfl⟩
theorem w_copy_X6 : Cond.methodLink RX6 43 arraycopyName ∈ oALL ∧ Cond.native arraycopyName ∈ oALL ∧ Cond.static arraycopyName ∈ oALL ∧ Cond.initialized "java/lang/System" ∈ oALL := ⟨o_t2 145 rfl rfl, o_t2 144 rfl rfl, o_t2 143 rfl rfl, o_t1 11 rfl rfl⟩
theorem w_copy_X1 : Cond.methodLink RX1 25 arraycopyName ∈ oALL ∧ Cond.native arraycopyName ∈ oALL ∧ Cond.static arraycopyName ∈ oALL ∧ Cond.initialized "java/lang/System" ∈ oALL := ⟨o_t4 93 rfl rfl, o_t2 144 rfl rfl, o_t2 143 rfl rfl, o_t1 11 rfl rfl⟩
set_option maxRecDepth 20000 in
set_option maxHeartbeats 8000000 in
theorem c_X4_copyRow {T : oT} {σ : oM} {eC aC0 aC1 Bn : Nat} (hE : oEd T eC) (hBn : σ eC 2 = (Bn : Int)) (hB2 : Bn ≤ 99) (hs0 : T.2.1 aC0 = (10, 100)) (haC0 : aC0 < T.1) (hs1 : T.2.1 aC1 = (10, 100)) (haC1 : aC1 < T.1) : MS yX4_copyRow cX4_copyRow 3 none 1 0 0 30 [og eC, og aC0, og aC1] T σ (oPv (fun σ2 => σ2 = o_cp σ aC0 1 aC1 1 Bn) T) := by
  have hEc := hE
  obtain ⟨hE0, hE3, hE4, hE5, hE6, hE7, hE8, hE9, hE10, hA1, hA2, hA3, hA4, hA5, hRw, hA10, hA11, hA12, hTe⟩ := hEc
  refine o_met (by decide +kernel) (Nat.le_of_ble_eq_true rfl) (fun p l ee s m args below meth c G b C hr hn => ?_)
  have C : oCx p s m args meth c G b RX4 cX4_copyRow 3 := C
  show oW p l ee ({ frames := 1, cells := 0, slots := 0, locals := 30 } : Room) s m args below meth c G b 3 0 0 (MQ below (o_Qc G b (oPv (fun σ2 => σ2 = o_cp σ aC0 1 aC1 1 Bn) T)) args s 0 0 (fun q => b ≤ q)) T σ 0 [some (og eC), some (og aC0), some (og aC1)] []
  refine r_al1 (q := 1) C dX4_copyRow_0 rfl ?_
  refine r_iconst (q := 2) C dX4_copyRow_1 rfl ?_
  refine r_al2 (q := 3) C dX4_copyRow_2 rfl ?_
  refine r_iconst (q := 4) C dX4_copyRow_3 rfl ?_
  refine r_al0 (q := 5) C dX4_copyRow_4 rfl ?_
  refine r_getI (q := 8) C f_X4_45 dX4_copyRow_5 rfl rfl (by assumption) (by omega) ?_
  refine r_copy (q := 11) C (1) (1) (Bn) w_copy_X4 dX4_copyRow_8 rfl hs0 (by omega) hs1 (by omega) (by omega) (by omega) (by omega) (by omega) (by omega) (by decide) (by decide) (by decide) (by decide) ?_
  exact r_vret C hr dX4_copyRow_11 (by decide) (by decide) ⟨rfl, rfl, rfl⟩
set_option maxRecDepth 20000 in
set_option maxHeartbeats 8000000 in
theorem c_X4_clearCopies {T : oT} {σ : oM} {eC : Nat} (hE : oEd T eC) : MS yX4_clearCopies cX4_clearCopies 2 none 0 0 0 0 [og eC] T σ (oPv (fun σ2 => σ2 = o_clr σ eC 6) T) := by
  have hEc := hE
  obtain ⟨hE0, hE3, hE4, hE5, hE6, hE7, hE8, hE9, hE10, hA1, hA2, hA3, hA4, hA5, hRw, hA10, hA11, hA12, hTe⟩ := hEc
  refine o_met (by decide +kernel) (Nat.le_of_ble_eq_true rfl) (fun p l ee s m args below meth c G b C hr hn => ?_)
  have C : oCx p s m args meth c G b RX4 cX4_clearCopies 2 := C
  show oW p l ee ({ frames := 0, cells := 0, slots := 0, locals := 0 } : Room) s m args below meth c G b 2 0 0 (MQ below (o_Qc G b (oPv (fun σ2 => σ2 = o_clr σ eC 6) T)) args s 0 0 (fun q => b ≤ q)) T σ 0 [some (og eC), none] []
  have lp : ∀ (n : Nat) (jx : Nat), 6 - jx < n → jx ≤ 6 → oW p l ee ({ frames := 0, cells := 0, slots := 0, locals := 0 } : Room) s m args below meth c G b 2 0 0 (MQ below (o_Qc G b (oPv (fun σ2 => σ2 = o_clr σ eC 6) T)) args s 0 0 (fun q => b ≤ q)) T (o_clr σ eC jx) 2 [some (og eC), some (oi ((jx : Nat) : Int))] [] := by
    intro n
    induction n with
    | zero =>
      intro jx hms
      exact absurd hms (Nat.not_lt_zero _)
    | succ n ih =>
      intro jx hms h1
      refine r_il1 (q := 3) C dX4_clearCopies_2 rfl ?_
      refine r_bipush (q := 5) C dX4_clearCopies_3 (by decide) rfl ?_
      refine r_icge (q := 35) (q2 := 8) C (by omega) (by omega) dX4_clearCopies_5 (by decide) rfl (fun br5 => ?_) (fun br5 => ?_)
      · exact r_vret C hr dX4_clearCopies_35 (by decide) (by decide) ⟨rfl, rfl, by rw [show jx = 6 by omega]⟩
      · refine r_al0 (q := 9) C dX4_clearCopies_8 rfl ?_
        refine r_getR (q := 12) C f_X4_33 dX4_clearCopies_9 rfl rfl (by assumption) (by assumption) (by omega) ?_
        refine r_il1 (q := 13) C dX4_clearCopies_12 rfl ?_
        refine r_iconst (q := 14) C dX4_clearCopies_13 rfl ?_
        refine r_iast (q := 15) C (jx) dX4_clearCopies_14 rfl (by assumption) (by omega) (by omega) (by omega) (by decide) ?_
        refine r_al0 (q := 16) C dX4_clearCopies_15 rfl ?_
        refine r_getR (q := 19) C f_X4_36 dX4_clearCopies_16 rfl rfl (by assumption) (by assumption) (by omega) ?_
        refine r_il1 (q := 20) C dX4_clearCopies_19 rfl ?_
        refine r_iconst (q := 21) C dX4_clearCopies_20 rfl ?_
        refine r_iast (q := 22) C (jx) dX4_clearCopies_21 rfl (by assumption) (by omega) (by omega) (by omega) (by decide) ?_
        refine r_al0 (q := 23) C dX4_clearCopies_22 rfl ?_
        refine r_getR (q := 26) C f_X4_39 dX4_clearCopies_23 rfl rfl (by assumption) (by assumption) (by omega) ?_
        refine r_il1 (q := 27) C dX4_clearCopies_26 rfl ?_
        refine r_iconst (q := 28) C dX4_clearCopies_27 rfl ?_
        refine r_iast (q := 29) C (jx) dX4_clearCopies_28 rfl (by assumption) (by omega) (by omega) (by omega) (by decide) ?_
        refine r_iinc1 (q := 32) C dX4_clearCopies_29 rfl (by decide) ?_
        refine r_goto (q := 2) C dX4_clearCopies_32 (by decide) ?_
        rw [o_clr_s]
        exact ih (jx + 1) (by omega) (by omega)
  refine r_iconst (q := 1) C dX4_clearCopies_0 rfl ?_
  refine r_is1 (q := 2) C dX4_clearCopies_1 rfl (by decide) ?_
  have h0 := lp _ 0 (Nat.lt_succ_self _) (by omega)
  rw [o_clr_0] at h0
  exact h0
set_option maxRecDepth 20000 in
set_option maxHeartbeats 8000000 in
theorem c_X4_becomeLike {T : oT} {σ : oM} {eC aC Bn : Nat} (hE : oEd T eC) (hA : oEd T aC) (hdis : eC + 13 ≤ aC ∨ aC + 13 ≤ eC) (hBn : σ aC 2 = (Bn : Int)) (hB2 : Bn ≤ 99) : MS yX4_becomeLike cX4_becomeLike 3 none 2 0 0 52 [og eC, og aC] T σ (oPv (fun σ2 => σ2 = o_like σ eC aC Bn) T) := by
  have hEc := hE
  obtain ⟨hE0, hE3, hE4, hE5, hE6, hE7, hE8, hE9, hE10, hA1, hA2, hA3, hA4, hA5, hRw, hA10, hA11, hA12, hTe⟩ := hEc
  have hAc := hA
  obtain ⟨hQ0, hQ3, hQ4, hQ5, hQ6, hQ7, hQ8, hQ9, hQ10, hQA1, hQA2, hQA3, hQA4, hQA5, hQw, hQA10, hQA11, hQA12, hQT⟩ := hAc
  have hb0 : (o_up (o_up (o_up σ eC 0 (σ aC 0)) eC 1 (σ aC 1)) eC 2 (σ aC 2)) eC 2 = (Bn : Int) := by rw [o_up_at]; exact hBn
  have hb3 : ∀ jx, (o_bl (o_up (o_up (o_up σ eC 0 (σ aC 0)) eC 1 (σ aC 1)) eC 2 (σ aC 2)) (rowK eC 4 jx) eC aC 1 Bn) eC 2 = (Bn : Int) := fun jx => by rw [o_bl_ne (by rw [rowK_f]; omega)]; exact hb0
  refine o_met (by decide +kernel) (Nat.le_of_ble_eq_true rfl) (fun p l ee s m args below meth c G b C hr hn => ?_)
  have C : oCx p s m args meth c G b RX4 cX4_becomeLike 3 := C
  show oW p l ee ({ frames := 2, cells := 0, slots := 0, locals := 52 } : Room) s m args below meth c G b 3 0 0 (MQ below (o_Qc G b (oPv (fun σ2 => σ2 = o_like σ eC aC Bn) T)) args s 0 0 (fun q => b ≤ q)) T σ 0 [some (og eC), some (og aC), none] []
  have lp : ∀ (n : Nat) (jx : Nat), 4 - jx < n → jx ≤ 4 → oW p l ee ({ frames := 2, cells := 0, slots := 0, locals := 52 } : Room) s m args below meth c G b 3 0 0 (MQ below (o_Qc G b (oPv (fun σ2 => σ2 = o_like σ eC aC Bn) T)) args s 0 0 (fun q => b ≤ q)) T (o_bl (o_up (o_up (o_up σ eC 0 (σ aC 0)) eC 1 (σ aC 1)) eC 2 (σ aC 2)) (rowK eC 4 jx) eC aC 1 Bn) 74 [some (og eC), some (og aC), some (oi ((jx : Nat) : Int))] [] := by
    intro n
    induction n with
    | zero =>
      intro jx hms
      exact absurd hms (Nat.not_lt_zero _)
    | succ n ih =>
      intro jx hms h1
      refine r_il2 (q := 75) C dX4_becomeLike_74 rfl ?_
      refine r_iconst (q := 76) C dX4_becomeLike_75 rfl ?_
      refine r_icge (q := 101) (q2 := 79) C (by omega) (by omega) dX4_becomeLike_76 (by decide) rfl (fun br76 => ?_) (fun br76 => ?_)
      · obtain rfl : jx = 4 := by omega
        refine r_al1 (q := 102) C dX4_becomeLike_101 rfl ?_
        refine r_getR (q := 105) C f_X4_33 dX4_becomeLike_102 rfl rfl (by assumption) (by assumption) (by omega) ?_
        refine r_iconst (q := 106) C dX4_becomeLike_105 rfl ?_
        refine r_al0 (q := 107) C dX4_becomeLike_106 rfl ?_
        refine r_getR (q := 110) C f_X4_33 dX4_becomeLike_107 rfl rfl (by assumption) (by assumption) (by omega) ?_
        refine r_iconst (q := 111) C dX4_becomeLike_110 rfl ?_
        refine r_bipush (q := 113) C dX4_becomeLike_111 (by decide) rfl ?_
        refine r_copy (q := 116) C (0) (0) (6) w_copy_X4 dX4_becomeLike_113 rfl (by assumption) (by omega) (by assumption) (by omega) (by omega) (by omega) (by omega) (by omega) (by omega) (by decide) (by decide) (by decide) (by decide) ?_
        refine r_al1 (q := 117) C dX4_becomeLike_116 rfl ?_
        refine r_getR (q := 120) C f_X4_36 dX4_becomeLike_117 rfl rfl (by assumption) (by assumption) (by omega) ?_
        refine r_iconst (q := 121) C dX4_becomeLike_120 rfl ?_
        refine r_al0 (q := 122) C dX4_becomeLike_121 rfl ?_
        refine r_getR (q := 125) C f_X4_36 dX4_becomeLike_122 rfl rfl (by assumption) (by assumption) (by omega) ?_
        refine r_iconst (q := 126) C dX4_becomeLike_125 rfl ?_
        refine r_bipush (q := 128) C dX4_becomeLike_126 (by decide) rfl ?_
        refine r_copy (q := 131) C (0) (0) (6) w_copy_X4 dX4_becomeLike_128 rfl (by assumption) (by omega) (by assumption) (by omega) (by omega) (by omega) (by omega) (by omega) (by omega) (by decide) (by decide) (by decide) (by decide) ?_
        refine r_al1 (q := 132) C dX4_becomeLike_131 rfl ?_
        refine r_getR (q := 135) C f_X4_39 dX4_becomeLike_132 rfl rfl (by assumption) (by assumption) (by omega) ?_
        refine r_iconst (q := 136) C dX4_becomeLike_135 rfl ?_
        refine r_al0 (q := 137) C dX4_becomeLike_136 rfl ?_
        refine r_getR (q := 140) C f_X4_39 dX4_becomeLike_137 rfl rfl (by assumption) (by assumption) (by omega) ?_
        refine r_iconst (q := 141) C dX4_becomeLike_140 rfl ?_
        refine r_bipush (q := 143) C dX4_becomeLike_141 (by decide) rfl ?_
        refine r_copy (q := 146) C (0) (0) (6) w_copy_X4 dX4_becomeLike_143 rfl (by assumption) (by omega) (by assumption) (by omega) (by omega) (by omega) (by omega) (by omega) (by omega) (by decide) (by decide) (by decide) (by decide) ?_
        exact r_vret C hr dX4_becomeLike_146 (by decide) (by decide) ⟨rfl, rfl, rfl⟩
      · refine r_al0 (q := 80) C dX4_becomeLike_79 rfl ?_
        refine r_al1 (q := 81) C dX4_becomeLike_80 rfl ?_
        refine r_getR (q := 84) C f_X4_30 dX4_becomeLike_81 rfl rfl (by assumption) (by assumption) (by omega) ?_
        refine r_il2 (q := 85) C dX4_becomeLike_84 rfl ?_
        refine r_aald (q := 86) C (jx) dX4_becomeLike_85 rfl (by assumption) (by omega) (by omega) (by omega) (by decide) (hQw jx (by omega)).1 rfl rfl (by decide) (by decide) ?_
        refine r_al0 (q := 87) C dX4_becomeLike_86 rfl ?_
        refine r_getR (q := 90) C f_X4_30 dX4_becomeLike_87 rfl rfl (by assumption) (by assumption) (by omega) ?_
        refine r_il2 (q := 91) C dX4_becomeLike_90 rfl ?_
        refine r_aald (q := 92) C (jx) dX4_becomeLike_91 rfl (by assumption) (by omega) (by omega) (by omega) (by decide) (hRw jx (by omega)).1 rfl rfl (by decide) (by decide) ?_
        refine r_callVv (q := 95) C (c_X4_copyRow (Bn := Bn) hE (hb3 jx) hB2 (hQw jx (by omega)).2 (by omega) (hRw jx (by omega)).2 (by omega)) m_X4_59 (by assumption) (by omega) dX4_becomeLike_92 rfl rfl (by decide) (by decide) (Nat.le_of_ble_eq_true rfl) (fun σ2 hσ2 => ?_)
        subst hσ2
        rw [o_blb hdis (by omega)]
        refine r_iinc2 (q := 98) C dX4_becomeLike_95 rfl (by decide) ?_
        refine r_goto (q := 74) C dX4_becomeLike_98 (by decide) ?_
        exact ih (jx + 1) (by omega) (by omega)
  refine r_al0 (q := 1) C dX4_becomeLike_0 rfl ?_
  refine r_al1 (q := 2) C dX4_becomeLike_1 rfl ?_
  refine r_getI (q := 5) C f_X4_42 dX4_becomeLike_2 rfl rfl (by assumption) (by omega) ?_
  refine r_putI (q := 8) C fp_X4_42 dX4_becomeLike_5 rfl rfl (by assumption) (by omega) ?_
  refine r_al0 (q := 9) C dX4_becomeLike_8 rfl ?_
  refine r_al1 (q := 10) C dX4_becomeLike_9 rfl ?_
  refine r_getI (q := 13) C f_X4_9 dX4_becomeLike_10 rfl rfl (by assumption) (by omega) ?_
  rw [show o_up σ eC 0 (σ aC 0) aC 1 = σ aC 1 from o_up_nj (Or.inl (by omega))]
  refine r_putI (q := 16) C fp_X4_9 dX4_becomeLike_13 rfl rfl (by assumption) (by omega) ?_
  refine r_al0 (q := 17) C dX4_becomeLike_16 rfl ?_
  refine r_al1 (q := 18) C dX4_becomeLike_17 rfl ?_
  refine r_getI (q := 21) C f_X4_45 dX4_becomeLike_18 rfl rfl (by assumption) (by omega) ?_
  rw [show o_up (o_up σ eC 0 (σ aC 0)) eC 1 (σ aC 1) aC 2 = σ aC 2 by rw [o_up_nj (Or.inl (by omega)), o_up_nj (Or.inl (by omega))]]
  refine r_putI (q := 24) C fp_X4_45 dX4_becomeLike_21 rfl rfl (by assumption) (by omega) ?_
  refine r_al0 (q := 25) C dX4_becomeLike_24 rfl ?_
  refine r_al1 (q := 26) C dX4_becomeLike_25 rfl ?_
  refine r_getR (q := 29) C f_X4_15 dX4_becomeLike_26 rfl rfl (by assumption) (by assumption) (by omega) ?_
  refine r_al0 (q := 30) C dX4_becomeLike_29 rfl ?_
  refine r_getR (q := 33) C f_X4_15 dX4_becomeLike_30 rfl rfl (by assumption) (by assumption) (by omega) ?_
  refine r_callVv (q := 36) C (c_X4_copyRow (Bn := Bn) hE hb0 hB2 hQA1 (by omega) hA1 (by omega)) m_X4_59 (by assumption) (by omega) dX4_becomeLike_33 rfl rfl (by decide) (by decide) (Nat.le_of_ble_eq_true rfl) (fun σ2 hσ2 => ?_)
  subst hσ2
  refine r_al0 (q := 37) C dX4_becomeLike_36 rfl ?_
  refine r_al1 (q := 38) C dX4_becomeLike_37 rfl ?_
  refine r_getR (q := 41) C f_X4_19 dX4_becomeLike_38 rfl rfl (by assumption) (by assumption) (by omega) ?_
  refine r_al0 (q := 42) C dX4_becomeLike_41 rfl ?_
  refine r_getR (q := 45) C f_X4_19 dX4_becomeLike_42 rfl rfl (by assumption) (by assumption) (by omega) ?_
  refine r_callVv (q := 48) C (c_X4_copyRow (Bn := Bn) hE (by rw [o_cp_ne (by omega)]; exact hb0) hB2 hQA2 (by omega) hA2 (by omega)) m_X4_59 (by assumption) (by omega) dX4_becomeLike_45 rfl rfl (by decide) (by decide) (Nat.le_of_ble_eq_true rfl) (fun σ2 hσ2 => ?_)
  subst hσ2
  refine r_al0 (q := 49) C dX4_becomeLike_48 rfl ?_
  refine r_al1 (q := 50) C dX4_becomeLike_49 rfl ?_
  refine r_getR (q := 53) C f_X4_22 dX4_becomeLike_50 rfl rfl (by assumption) (by assumption) (by omega) ?_
  refine r_al0 (q := 54) C dX4_becomeLike_53 rfl ?_
  refine r_getR (q := 57) C f_X4_22 dX4_becomeLike_54 rfl rfl (by assumption) (by assumption) (by omega) ?_
  refine r_callVv (q := 60) C (c_X4_copyRow (Bn := Bn) hE (by rw [o_cp_ne (by omega), o_cp_ne (by omega)]; exact hb0) hB2 hQA3 (by omega) hA3 (by omega)) m_X4_59 (by assumption) (by omega) dX4_becomeLike_57 rfl rfl (by decide) (by decide) (Nat.le_of_ble_eq_true rfl) (fun σ2 hσ2 => ?_)
  subst hσ2
  refine r_al0 (q := 61) C dX4_becomeLike_60 rfl ?_
  refine r_al1 (q := 62) C dX4_becomeLike_61 rfl ?_
  refine r_getR (q := 65) C f_X4_25 dX4_becomeLike_62 rfl rfl (by assumption) (by assumption) (by omega) ?_
  refine r_al0 (q := 66) C dX4_becomeLike_65 rfl ?_
  refine r_getR (q := 69) C f_X4_25 dX4_becomeLike_66 rfl rfl (by assumption) (by assumption) (by omega) ?_
  refine r_callVv (q := 72) C (c_X4_copyRow (Bn := Bn) hE (by rw [o_cp_ne (by omega), o_cp_ne (by omega), o_cp_ne (by omega)]; exact hb0) hB2 hQA4 (by omega) hA4 (by omega)) m_X4_59 (by assumption) (by omega) dX4_becomeLike_69 rfl rfl (by decide) (by decide) (Nat.le_of_ble_eq_true rfl) (fun σ2 hσ2 => ?_)
  subst hσ2
  refine r_iconst (q := 73) C dX4_becomeLike_72 rfl ?_
  refine r_is2 (q := 74) C dX4_becomeLike_73 rfl (by decide) ?_
  rw [o_bl4 hdis]
  exact lp _ 0 (Nat.lt_succ_self _) (by omega)
set_option maxRecDepth 20000 in
set_option maxHeartbeats 8000000 in
theorem c_X4_moveTail {T : oT} {σ : oM} {eC Bn fx tx : Nat} (hE : oEd T eC) (hBn : σ eC 2 = (Bn : Int)) (hB2 : Bn ≤ 99) (hf : 1 ≤ fx) (ht : 1 ≤ tx) (hf2 : fx ≤ 200) (ht2 : tx ≤ 200) (hft : tx + (Bn + 1 - fx) ≤ 100 ∨ Bn < fx) : MS yX4_moveTail cX4_moveTail 5 none 1 0 0 30 [og eC, oi ((fx : Nat) : Int), oi ((tx : Nat) : Int)] T σ (oPv (fun σ2 => σ2 = o_mv σ (rowK eC 4 4) fx tx (Bn + 1 - fx)) T) := by
  have hEc := hE
  obtain ⟨hE0, hE3, hE4, hE5, hE6, hE7, hE8, hE9, hE10, hA1, hA2, hA3, hA4, hA5, hRw, hA10, hA11, hA12, hTe⟩ := hEc
  refine o_met (by decide +kernel) (Nat.le_of_ble_eq_true rfl) (fun p l ee s m args below meth c G b C hr hn => ?_)
  have C : oCx p s m args meth c G b RX4 cX4_moveTail 5 := C
  show oW p l ee ({ frames := 1, cells := 0, slots := 0, locals := 30 } : Room) s m args below meth c G b 5 0 0 (MQ below (o_Qc G b (oPv (fun σ2 => σ2 = o_mv σ (rowK eC 4 4) fx tx (Bn + 1 - fx)) T)) args s 0 0 (fun q => b ≤ q)) T σ 0 [some (og eC), some (oi ((fx : Nat) : Int)), some (oi ((tx : Nat) : Int)), none, none] []
  have lp : (tx + (Bn + 1 - fx) ≤ 100 ∧ fx ≤ Bn) → ∀ (n : Nat) (jx : Nat), 4 - jx < n → jx ≤ 4 → oW p l ee ({ frames := 1, cells := 0, slots := 0, locals := 30 } : Room) s m args below meth c G b 5 0 0 (MQ below (o_Qc G b (oPv (fun σ2 => σ2 = o_mv σ (rowK eC 4 4) fx tx (Bn + 1 - fx)) T)) args s 0 0 (fun q => b ≤ q)) T (o_mv σ (rowK eC 4 jx) fx tx (Bn + 1 - fx)) 73 [some (og eC), some (oi ((fx : Nat) : Int)), some (oi ((tx : Nat) : Int)), some (oi (((Bn + 1 - fx : Nat)) : Int)), some (oi ((jx : Nat) : Int))] [] := by
    intro hft2 n
    induction n with
    | zero =>
      intro jx hms
      exact absurd hms (Nat.not_lt_zero _)
    | succ n ih =>
      intro jx hms h1
      obtain ⟨hft3, hft4⟩ := hft2
      refine r_il4 (q := 75) C dX4_moveTail_73 rfl ?_
      refine r_iconst (q := 76) C dX4_moveTail_75 rfl ?_
      refine r_icge (q := 105) (q2 := 79) C (by omega) (by omega) dX4_moveTail_76 (by decide) rfl (fun br76 => ?_) (fun br76 => ?_)
      · exact r_vret C hr dX4_moveTail_105 (by decide) (by decide) ⟨rfl, rfl, by rw [show jx = 4 by omega]⟩
      · refine r_al0 (q := 80) C dX4_moveTail_79 rfl ?_
        refine r_getR (q := 83) C f_X4_30 dX4_moveTail_80 rfl rfl (by assumption) (by assumption) (by omega) ?_
        refine r_il4 (q := 85) C dX4_moveTail_83 rfl ?_
        refine r_aald (q := 86) C (jx) dX4_moveTail_85 rfl (by assumption) (by omega) (by omega) (by omega) (by decide) (hRw jx (by omega)).1 rfl rfl (by decide) (by decide) ?_
        refine r_il1 (q := 87) C dX4_moveTail_86 rfl ?_
        refine r_al0 (q := 88) C dX4_moveTail_87 rfl ?_
        refine r_getR (q := 91) C f_X4_30 dX4_moveTail_88 rfl rfl (by assumption) (by assumption) (by omega) ?_
        refine r_il4 (q := 93) C dX4_moveTail_91 rfl ?_
        refine r_aald (q := 94) C (jx) dX4_moveTail_93 rfl (by assumption) (by omega) (by omega) (by omega) (by decide) (hRw jx (by omega)).1 rfl rfl (by decide) (by decide) ?_
        refine r_il2 (q := 95) C dX4_moveTail_94 rfl ?_
        refine r_il3 (q := 96) C dX4_moveTail_95 rfl ?_
        refine r_copy (q := 99) C (fx) (tx) (Bn + 1 - fx) w_copy_X4 dX4_moveTail_96 rfl (hRw jx (by omega)).2 (by omega) (hRw jx (by omega)).2 (by omega) (by omega) (by omega) (by omega) (by omega) (by omega) (by decide) (by decide) (by decide) (by decide) ?_
        refine r_iinc4 (q := 102) C dX4_moveTail_99 rfl (by decide) ?_
        refine r_goto (q := 73) C dX4_moveTail_102 (by decide) ?_
        rw [o_mvb]
        exact ih (jx + 1) (by omega) (by omega)
  refine r_al0 (q := 1) C dX4_moveTail_0 rfl ?_
  refine r_getI (q := 4) C f_X4_45 dX4_moveTail_1 rfl rfl (by assumption) (by omega) ?_
  refine r_il1 (q := 5) C dX4_moveTail_4 rfl ?_
  refine r_isub (q := 6) C dX4_moveTail_5 rfl ?_
  refine r_iconst (q := 7) C dX4_moveTail_6 rfl ?_
  refine r_iadd (q := 8) C dX4_moveTail_7 rfl ?_
  have hemv : σ eC 2 - (fx : Int) + 1 = ((Bn : Int) + 1 - (fx : Int)) := by omega
  rw [hemv]
  obtain ⟨mvx, hmvx⟩ : ∃ y : Int, y = (Bn : Int) + 1 - (fx : Int) := ⟨_, rfl⟩
  rw [← hmvx]
  refine r_is3 (q := 9) C dX4_moveTail_8 rfl (by decide) ?_
  refine r_il3 (q := 10) C dX4_moveTail_9 rfl ?_
  refine r_ifgt (q := 14) (q2 := 13) C (by omega) dX4_moveTail_10 (by decide) rfl (fun br10 => ?_) (fun br10 => ?_)
  · obtain rfl : mvx = (((Bn + 1 - fx : Nat)) : Int) := by omega
    have hft2 : tx + (Bn + 1 - fx) ≤ 100 ∧ fx ≤ Bn := by omega
    refine r_al0 (q := 15) C dX4_moveTail_14 rfl ?_
    refine r_getR (q := 18) C f_X4_15 dX4_moveTail_15 rfl rfl (by assumption) (by assumption) (by omega) ?_
    refine r_il1 (q := 19) C dX4_moveTail_18 rfl ?_
    refine r_al0 (q := 20) C dX4_moveTail_19 rfl ?_
    refine r_getR (q := 23) C f_X4_15 dX4_moveTail_20 rfl rfl (by assumption) (by assumption) (by omega) ?_
    refine r_il2 (q := 24) C dX4_moveTail_23 rfl ?_
    refine r_il3 (q := 25) C dX4_moveTail_24 rfl ?_
    refine r_copy (q := 28) C (fx) (tx) (Bn + 1 - fx) w_copy_X4 dX4_moveTail_25 rfl (by assumption) (by omega) (by assumption) (by omega) (by omega) (by omega) (by omega) (by omega) (by omega) (by decide) (by decide) (by decide) (by decide) ?_
    refine r_al0 (q := 29) C dX4_moveTail_28 rfl ?_
    refine r_getR (q := 32) C f_X4_19 dX4_moveTail_29 rfl rfl (by assumption) (by assumption) (by omega) ?_
    refine r_il1 (q := 33) C dX4_moveTail_32 rfl ?_
    refine r_al0 (q := 34) C dX4_moveTail_33 rfl ?_
    refine r_getR (q := 37) C f_X4_19 dX4_moveTail_34 rfl rfl (by assumption) (by assumption) (by omega) ?_
    refine r_il2 (q := 38) C dX4_moveTail_37 rfl ?_
    refine r_il3 (q := 39) C dX4_moveTail_38 rfl ?_
    refine r_copy (q := 42) C (fx) (tx) (Bn + 1 - fx) w_copy_X4 dX4_moveTail_39 rfl (by assumption) (by omega) (by assumption) (by omega) (by omega) (by omega) (by omega) (by omega) (by omega) (by decide) (by decide) (by decide) (by decide) ?_
    refine r_al0 (q := 43) C dX4_moveTail_42 rfl ?_
    refine r_getR (q := 46) C f_X4_22 dX4_moveTail_43 rfl rfl (by assumption) (by assumption) (by omega) ?_
    refine r_il1 (q := 47) C dX4_moveTail_46 rfl ?_
    refine r_al0 (q := 48) C dX4_moveTail_47 rfl ?_
    refine r_getR (q := 51) C f_X4_22 dX4_moveTail_48 rfl rfl (by assumption) (by assumption) (by omega) ?_
    refine r_il2 (q := 52) C dX4_moveTail_51 rfl ?_
    refine r_il3 (q := 53) C dX4_moveTail_52 rfl ?_
    refine r_copy (q := 56) C (fx) (tx) (Bn + 1 - fx) w_copy_X4 dX4_moveTail_53 rfl (by assumption) (by omega) (by assumption) (by omega) (by omega) (by omega) (by omega) (by omega) (by omega) (by decide) (by decide) (by decide) (by decide) ?_
    refine r_al0 (q := 57) C dX4_moveTail_56 rfl ?_
    refine r_getR (q := 60) C f_X4_25 dX4_moveTail_57 rfl rfl (by assumption) (by assumption) (by omega) ?_
    refine r_il1 (q := 61) C dX4_moveTail_60 rfl ?_
    refine r_al0 (q := 62) C dX4_moveTail_61 rfl ?_
    refine r_getR (q := 65) C f_X4_25 dX4_moveTail_62 rfl rfl (by assumption) (by assumption) (by omega) ?_
    refine r_il2 (q := 66) C dX4_moveTail_65 rfl ?_
    refine r_il3 (q := 67) C dX4_moveTail_66 rfl ?_
    refine r_copy (q := 70) C (fx) (tx) (Bn + 1 - fx) w_copy_X4 dX4_moveTail_67 rfl (by assumption) (by omega) (by assumption) (by omega) (by omega) (by omega) (by omega) (by omega) (by omega) (by decide) (by decide) (by decide) (by decide) ?_
    refine r_iconst (q := 71) C dX4_moveTail_70 rfl ?_
    refine r_is4 (q := 73) C dX4_moveTail_71 rfl (by decide) ?_
    rw [o_mv4]
    exact lp hft2 _ 0 (Nat.lt_succ_self _) (by omega)
  · exact r_vret C hr dX4_moveTail_13 (by decide) (by decide) ⟨rfl, rfl, by rw [show Bn + 1 - fx = 0 by omega, o_mv_n0]⟩
set_option maxRecDepth 20000 in
set_option maxHeartbeats 8000000 in
theorem c_X4_fillNewBars {T : oT} {σ : oM} {eC fx gx : Nat} {btx fsx : Int} (hE : oEd T eC) (hf : 1 ≤ fx) (hg : gx ≤ 99) (hfg : fx ≤ gx + 1) : MS yX4_fillNewBars cX4_fillNewBars 7 none 0 0 0 0 [og eC, oi ((fx : Nat) : Int), oi ((gx : Nat) : Int), oi btx, oi fsx] T σ (oPv (fun σ2 => σ2 = o_fl σ eC fx (gx + 1) 0 0 btx fsx) T) := by
  have hEc := hE
  obtain ⟨hE0, hE3, hE4, hE5, hE6, hE7, hE8, hE9, hE10, hA1, hA2, hA3, hA4, hA5, hRw, hA10, hA11, hA12, hTe⟩ := hEc
  refine o_met (by decide +kernel) (Nat.le_of_ble_eq_true rfl) (fun p l ee s m args below meth c G b C hr hn => ?_)
  have C : oCx p s m args meth c G b RX4 cX4_fillNewBars 7 := C
  show oW p l ee ({ frames := 0, cells := 0, slots := 0, locals := 0 } : Room) s m args below meth c G b 7 0 0 (MQ below (o_Qc G b (oPv (fun σ2 => σ2 = o_fl σ eC fx (gx + 1) 0 0 btx fsx) T)) args s 0 0 (fun q => b ≤ q)) T σ 0 [some (og eC), some (oi ((fx : Nat) : Int)), some (oi ((gx : Nat) : Int)), some (oi btx), some (oi fsx), none, none] []
  have lp : ∀ (n : Nat) (w6 : Option oV) (jx : Nat), gx + 1 - jx < n → fx ≤ jx ∧ jx ≤ gx + 1 → oW p l ee ({ frames := 0, cells := 0, slots := 0, locals := 0 } : Room) s m args below meth c G b 7 0 0 (MQ below (o_Qc G b (oPv (fun σ2 => σ2 = o_fl σ eC fx (gx + 1) 0 0 btx fsx) T)) args s 0 0 (fun q => b ≤ q)) T (o_fl σ eC fx jx 0 0 btx fsx) 3 [some (og eC), some (oi ((fx : Nat) : Int)), some (oi ((gx : Nat) : Int)), some (oi btx), some (oi fsx), some (oi ((jx : Nat) : Int)), w6] [] := by
    intro n
    induction n with
    | zero =>
      intro w6 jx hms
      exact absurd hms (Nat.not_lt_zero _)
    | succ n ih =>
      intro w6 jx hms h1
      have lq : ∀ (n2 : Nat) (ix : Nat), 4 - ix < n2 → ix ≤ 4 ∧ jx ≤ gx → oW p l ee ({ frames := 0, cells := 0, slots := 0, locals := 0 } : Room) s m args below meth c G b 7 0 0 (MQ below (o_Qc G b (oPv (fun σ2 => σ2 = o_fl σ eC fx (gx + 1) 0 0 btx fsx) T)) args s 0 0 (fun q => b ≤ q)) T (o_fl σ eC fx jx 4 ix btx fsx) 50 [some (og eC), some (oi ((fx : Nat) : Int)), some (oi ((gx : Nat) : Int)), some (oi btx), some (oi fsx), some (oi ((jx : Nat) : Int)), some (oi ((ix : Nat) : Int))] [] := by
        intro n2
        induction n2 with
        | zero =>
          intro ix hms
          exact absurd hms (Nat.not_lt_zero _)
        | succ n2 ih2 =>
          intro ix hms h3
          refine r_il6 (q := 52) C dX4_fillNewBars_50 rfl ?_
          refine r_iconst (q := 53) C dX4_fillNewBars_52 rfl ?_
          refine r_icge (q := 73) (q2 := 56) C (by omega) (by omega) dX4_fillNewBars_53 (by decide) rfl (fun br53 => ?_) (fun br53 => ?_)
          · refine r_iinc5 (q := 76) C dX4_fillNewBars_73 rfl (by decide) ?_
            refine r_goto (q := 3) C dX4_fillNewBars_76 (by decide) ?_
            rw [show ix = 4 by omega, o_fl_n (by omega)]
            exact ih (some (oi 4)) (jx + 1) (by omega) (by omega)
          · refine r_al0 (q := 57) C dX4_fillNewBars_56 rfl ?_
            refine r_getR (q := 60) C f_X4_30 dX4_fillNewBars_57 rfl rfl (by assumption) (by assumption) (by omega) ?_
            refine r_il6 (q := 62) C dX4_fillNewBars_60 rfl ?_
            have hRi := (hRw ix (by omega)).2
            refine r_aald (q := 63) C (ix) dX4_fillNewBars_62 rfl (by assumption) (by omega) (by omega) (by omega) (by decide) (hRw ix (by omega)).1 rfl rfl (by decide) (by decide) ?_
            refine r_il5 (q := 65) C dX4_fillNewBars_63 rfl ?_
            refine r_iconst (q := 66) C dX4_fillNewBars_65 rfl ?_
            refine r_iast (q := 67) C (jx) dX4_fillNewBars_66 rfl (by assumption) (by omega) (by omega) (by omega) (by decide) ?_
            refine r_iinc6 (q := 70) C dX4_fillNewBars_67 rfl (by decide) ?_
            refine r_goto (q := 50) C dX4_fillNewBars_70 (by decide) ?_
            rw [o_fl_b (by omega) (by omega)]
            exact ih2 (ix + 1) (by omega) (by omega)
      refine r_il5 (q := 5) C dX4_fillNewBars_3 rfl ?_
      refine r_il2 (q := 6) C dX4_fillNewBars_5 rfl ?_
      refine r_icgt (q := 79) (q2 := 9) C (by omega) (by omega) dX4_fillNewBars_6 (by decide) rfl (fun br6 => ?_) (fun br6 => ?_)
      · exact r_vret C hr dX4_fillNewBars_79 (by decide) (by decide) ⟨rfl, rfl, by rw [show jx = gx + 1 by omega]⟩
      · refine r_al0 (q := 10) C dX4_fillNewBars_9 rfl ?_
        refine r_getR (q := 13) C f_X4_15 dX4_fillNewBars_10 rfl rfl (by assumption) (by assumption) (by omega) ?_
        refine r_il5 (q := 15) C dX4_fillNewBars_13 rfl ?_
        refine r_il4 (q := 17) C dX4_fillNewBars_15 rfl ?_
        refine r_il5 (q := 19) C dX4_fillNewBars_17 rfl ?_
        refine r_iadd (q := 20) C dX4_fillNewBars_19 rfl ?_
        refine r_il1 (q := 21) C dX4_fillNewBars_20 rfl ?_
        refine r_isub (q := 22) C dX4_fillNewBars_21 rfl ?_
        refine r_iast (q := 23) C (jx) dX4_fillNewBars_22 rfl (by assumption) (by omega) (by omega) (by omega) (by decide) ?_
        refine r_al0 (q := 24) C dX4_fillNewBars_23 rfl ?_
        refine r_getR (q := 27) C f_X4_19 dX4_fillNewBars_24 rfl rfl (by assumption) (by assumption) (by omega) ?_
        refine r_il5 (q := 29) C dX4_fillNewBars_27 rfl ?_
        refine r_iconst (q := 30) C dX4_fillNewBars_29 rfl ?_
        refine r_iast (q := 31) C (jx) dX4_fillNewBars_30 rfl (by assumption) (by omega) (by omega) (by omega) (by decide) ?_
        refine r_al0 (q := 32) C dX4_fillNewBars_31 rfl ?_
        refine r_getR (q := 35) C f_X4_22 dX4_fillNewBars_32 rfl rfl (by assumption) (by assumption) (by omega) ?_
        refine r_il5 (q := 37) C dX4_fillNewBars_35 rfl ?_
        refine r_il3 (q := 38) C dX4_fillNewBars_37 rfl ?_
        refine r_iast (q := 39) C (jx) dX4_fillNewBars_38 rfl (by assumption) (by omega) (by omega) (by omega) (by decide) ?_
        refine r_al0 (q := 40) C dX4_fillNewBars_39 rfl ?_
        refine r_getR (q := 43) C f_X4_25 dX4_fillNewBars_40 rfl rfl (by assumption) (by assumption) (by omega) ?_
        refine r_il5 (q := 45) C dX4_fillNewBars_43 rfl ?_
        refine r_iconst (q := 46) C dX4_fillNewBars_45 rfl ?_
        refine r_iast (q := 47) C (jx) dX4_fillNewBars_46 rfl (by assumption) (by omega) (by omega) (by omega) (by decide) ?_
        refine r_iconst (q := 48) C dX4_fillNewBars_47 rfl ?_
        refine r_is6 (q := 50) C dX4_fillNewBars_48 rfl (by decide) ?_
        rw [o_fl_4]
        exact lq _ 0 (Nat.lt_succ_self _) (by omega)
  refine r_il1 (q := 1) C dX4_fillNewBars_0 rfl ?_
  refine r_is5 (q := 3) C dX4_fillNewBars_1 rfl (by decide) ?_
  have h0 := lp _ none fx (Nat.lt_succ_self _) (by omega)
  rw [o_fl_0] at h0
  exact h0
set_option maxRecDepth 20000 in
set_option maxHeartbeats 8000000 in
theorem c_X4_removeBars {T : oT} {σ : oM} {eC Bn fx gx : Nat} (hE : oEd T eC) (hBn : σ eC 2 = (Bn : Int)) (hB2 : Bn ≤ 99) (hf : 1 ≤ fx) (hg : gx ≤ Bn) (hfg : fx ≤ gx) : MS yX4_removeBars cX4_removeBars 3 none 2 0 0 54 [og eC, oi ((fx : Nat) : Int), oi ((gx : Nat) : Int)] T σ (oPv (fun σ2 => σ2 = o_up (o_mv σ (rowK eC 4 4) (gx + 1) fx (Bn - gx)) eC 2 ((Bn : Int) - ((gx : Int) - (fx : Int) + 1))) T) := by
  have hEc := hE
  obtain ⟨hE0, hE3, hE4, hE5, hE6, hE7, hE8, hE9, hE10, hA1, hA2, hA3, hA4, hA5, hRw, hA10, hA11, hA12, hTe⟩ := hEc
  refine o_met (by decide +kernel) (Nat.le_of_ble_eq_true rfl) (fun p l ee s m args below meth c G b C hr hn => ?_)
  have C : oCx p s m args meth c G b RX4 cX4_removeBars 3 := C
  show oW p l ee ({ frames := 2, cells := 0, slots := 0, locals := 54 } : Room) s m args below meth c G b 3 0 0 (MQ below (o_Qc G b (oPv (fun σ2 => σ2 = o_up (o_mv σ (rowK eC 4 4) (gx + 1) fx (Bn - gx)) eC 2 ((Bn : Int) - ((gx : Int) - (fx : Int) + 1))) T)) args s 0 0 (fun q => b ≤ q)) T σ 0 [some (og eC), some (oi ((fx : Nat) : Int)), some (oi ((gx : Nat) : Int))] []
  refine r_al0 (q := 1) C dX4_removeBars_0 rfl ?_
  refine r_il2 (q := 2) C dX4_removeBars_1 rfl ?_
  refine r_iconst (q := 3) C dX4_removeBars_2 rfl ?_
  refine r_iadd (q := 4) C dX4_removeBars_3 rfl ?_
  refine r_il1 (q := 5) C dX4_removeBars_4 rfl ?_
  refine r_callVv (q := 8) C (c_X4_moveTail (fx := gx + 1) (tx := fx) hE hBn hB2 (by omega) hf (by omega) (by omega) (by omega)) m_X4_69 (by assumption) (by omega) dX4_removeBars_5 rfl rfl (by decide) (by decide) (Nat.le_of_ble_eq_true rfl) (fun σ2 hσ2 => ?_)
  subst hσ2
  rw [show Bn + 1 - (gx + 1) = Bn - gx by omega]
  refine r_al0 (q := 9) C dX4_removeBars_8 rfl ?_
  refine r_dup (q := 10) C dX4_removeBars_9 rfl ?_
  refine r_getI (q := 13) C f_X4_45 dX4_removeBars_10 rfl rfl (by assumption) (by omega) ?_
  refine r_il2 (q := 14) C dX4_removeBars_13 rfl ?_
  refine r_il1 (q := 15) C dX4_removeBars_14 rfl ?_
  refine r_isub (q := 16) C dX4_removeBars_15 rfl ?_
  refine r_iconst (q := 17) C dX4_removeBars_16 rfl ?_
  refine r_iadd (q := 18) C dX4_removeBars_17 rfl ?_
  refine r_isub (q := 19) C dX4_removeBars_18 rfl ?_
  rw [show o_mv σ (rowK eC 4 4) (gx + 1) fx (Bn - gx) eC 2 = (Bn : Int) by rw [o_mv_ne (by rw [rowK_f]; omega)]; exact hBn]
  refine r_putI (q := 22) C fp_X4_45 dX4_removeBars_19 rfl rfl (by assumption) (by omega) ?_
  exact r_vret C hr dX4_removeBars_22 (by decide) (by decide) ⟨rfl, rfl, rfl⟩
set_option maxRecDepth 20000 in
set_option maxHeartbeats 8000000 in
theorem c_X4_addBars {T : oT} {σ : oM} {eC Bn hx cx : Nat} {btx gox : Int} (hE : oEd T eC) (hBn : σ eC 2 = (Bn : Int)) (hh : hx ≤ Bn) (hc1 : 1 ≤ cx) (hc : Bn + cx ≤ 99) : MS yX4_addBars cX4_addBars 5 none 2 0 0 54 [og eC, oi ((hx : Nat) : Int), oi ((cx : Nat) : Int), oi btx, oi gox] T σ (oPv (fun σ2 => σ2 = o_fl (o_up (o_mv σ (rowK eC 4 4) (hx + 1) (hx + 1 + cx) (Bn - hx)) eC 2 ((Bn : Int) + (cx : Int))) eC (hx + 1) (hx + cx + 1) 0 0 btx (gox + 1)) T) := by
  have hEc := hE
  obtain ⟨hE0, hE3, hE4, hE5, hE6, hE7, hE8, hE9, hE10, hA1, hA2, hA3, hA4, hA5, hRw, hA10, hA11, hA12, hTe⟩ := hEc
  refine o_met (by decide +kernel) (Nat.le_of_ble_eq_true rfl) (fun p l ee s m args below meth c G b C hr hn => ?_)
  have C : oCx p s m args meth c G b RX4 cX4_addBars 5 := C
  show oW p l ee ({ frames := 2, cells := 0, slots := 0, locals := 54 } : Room) s m args below meth c G b 5 0 0 (MQ below (o_Qc G b (oPv (fun σ2 => σ2 = o_fl (o_up (o_mv σ (rowK eC 4 4) (hx + 1) (hx + 1 + cx) (Bn - hx)) eC 2 ((Bn : Int) + (cx : Int))) eC (hx + 1) (hx + cx + 1) 0 0 btx (gox + 1)) T)) args s 0 0 (fun q => b ≤ q)) T σ 0 [some (og eC), some (oi ((hx : Nat) : Int)), some (oi ((cx : Nat) : Int)), some (oi btx), some (oi gox)] []
  refine r_al0 (q := 1) C dX4_addBars_0 rfl ?_
  refine r_il1 (q := 2) C dX4_addBars_1 rfl ?_
  refine r_iconst (q := 3) C dX4_addBars_2 rfl ?_
  refine r_iadd (q := 4) C dX4_addBars_3 rfl ?_
  refine r_il1 (q := 5) C dX4_addBars_4 rfl ?_
  refine r_iconst (q := 6) C dX4_addBars_5 rfl ?_
  refine r_iadd (q := 7) C dX4_addBars_6 rfl ?_
  refine r_il2 (q := 8) C dX4_addBars_7 rfl ?_
  refine r_iadd (q := 9) C dX4_addBars_8 rfl ?_
  refine r_callVv (q := 12) C (c_X4_moveTail (fx := hx + 1) (tx := hx + 1 + cx) hE hBn (by omega) (by omega) (by omega) (by omega) (by omega) (by omega)) m_X4_69 (by assumption) (by omega) dX4_addBars_9 rfl rfl (by decide) (by decide) (Nat.le_of_ble_eq_true rfl) (fun σ2 hσ2 => ?_)
  subst hσ2
  rw [show Bn + 1 - (hx + 1) = Bn - hx by omega]
  refine r_al0 (q := 13) C dX4_addBars_12 rfl ?_
  refine r_dup (q := 14) C dX4_addBars_13 rfl ?_
  refine r_getI (q := 17) C f_X4_45 dX4_addBars_14 rfl rfl (by assumption) (by omega) ?_
  refine r_il2 (q := 18) C dX4_addBars_17 rfl ?_
  refine r_iadd (q := 19) C dX4_addBars_18 rfl ?_
  rw [show o_mv σ (rowK eC 4 4) (hx + 1) (hx + 1 + cx) (Bn - hx) eC 2 = (Bn : Int) by rw [o_mv_ne (by rw [rowK_f]; omega)]; exact hBn]
  refine r_putI (q := 22) C fp_X4_45 dX4_addBars_19 rfl rfl (by assumption) (by omega) ?_
  refine r_al0 (q := 23) C dX4_addBars_22 rfl ?_
  refine r_il1 (q := 24) C dX4_addBars_23 rfl ?_
  refine r_iconst (q := 25) C dX4_addBars_24 rfl ?_
  refine r_iadd (q := 26) C dX4_addBars_25 rfl ?_
  refine r_il1 (q := 27) C dX4_addBars_26 rfl ?_
  refine r_il2 (q := 28) C dX4_addBars_27 rfl ?_
  refine r_iadd (q := 29) C dX4_addBars_28 rfl ?_
  refine r_il3 (q := 30) C dX4_addBars_29 rfl ?_
  refine r_il4 (q := 32) C dX4_addBars_30 rfl ?_
  refine r_iconst (q := 33) C dX4_addBars_32 rfl ?_
  refine r_iadd (q := 34) C dX4_addBars_33 rfl ?_
  refine r_callVv (q := 37) C (c_X4_fillNewBars (fx := hx + 1) (gx := hx + cx) hE (by omega) (by omega) (by omega)) m_X4_48 (by assumption) (by omega) dX4_addBars_34 rfl rfl (by decide) (by decide) (Nat.le_of_ble_eq_true rfl) (fun σ2 hσ2 => ?_)
  subst hσ2
  exact r_vret C hr dX4_addBars_37 (by decide) (by decide) ⟨rfl, rfl, rfl⟩
set_option maxRecDepth 20000 in
set_option maxHeartbeats 8000000 in
theorem c_X4_becomeFirst {T : oT} {σ : oM} {eC Bn : Nat} {wkx btx : Int} (hE : oEd T eC) (hB1 : 1 ≤ Bn) (hB2 : Bn ≤ 99) : MS yX4_becomeFirst cX4_becomeFirst 4 none 1 0 0 26 [og eC, oi wkx, oi ((Bn : Nat) : Int), oi btx] T σ (oPv (fun σ2 => σ2 = o_clr (o_fl (o_up (o_up (o_up σ eC 0 wkx) eC 1 (-7)) eC 2 (Bn : Int)) eC 1 (Bn + 1) 0 0 btx 1) eC 6) T) := by
  have hEc := hE
  obtain ⟨hE0, hE3, hE4, hE5, hE6, hE7, hE8, hE9, hE10, hA1, hA2, hA3, hA4, hA5, hRw, hA10, hA11, hA12, hTe⟩ := hEc
  refine o_met (by decide +kernel) (Nat.le_of_ble_eq_true rfl) (fun p l ee s m args below meth c G b C hr hn => ?_)
  have C : oCx p s m args meth c G b RX4 cX4_becomeFirst 4 := C
  show oW p l ee ({ frames := 1, cells := 0, slots := 0, locals := 26 } : Room) s m args below meth c G b 4 0 0 (MQ below (o_Qc G b (oPv (fun σ2 => σ2 = o_clr (o_fl (o_up (o_up (o_up σ eC 0 wkx) eC 1 (-7)) eC 2 (Bn : Int)) eC 1 (Bn + 1) 0 0 btx 1) eC 6) T)) args s 0 0 (fun q => b ≤ q)) T σ 0 [some (og eC), some (oi wkx), some (oi ((Bn : Nat) : Int)), some (oi btx)] []
  refine r_al0 (q := 1) C dX4_becomeFirst_0 rfl ?_
  refine r_il1 (q := 2) C dX4_becomeFirst_1 rfl ?_
  refine r_putI (q := 5) C fp_X4_42 dX4_becomeFirst_2 rfl rfl (by assumption) (by omega) ?_
  refine r_al0 (q := 6) C dX4_becomeFirst_5 rfl ?_
  refine r_bipush (q := 8) C dX4_becomeFirst_6 (by decide) rfl ?_
  refine r_putI (q := 11) C fp_X4_9 dX4_becomeFirst_8 rfl rfl (by assumption) (by omega) ?_
  refine r_al0 (q := 12) C dX4_becomeFirst_11 rfl ?_
  refine r_il2 (q := 13) C dX4_becomeFirst_12 rfl ?_
  refine r_putI (q := 16) C fp_X4_45 dX4_becomeFirst_13 rfl rfl (by assumption) (by omega) ?_
  refine r_al0 (q := 17) C dX4_becomeFirst_16 rfl ?_
  refine r_iconst (q := 18) C dX4_becomeFirst_17 rfl ?_
  refine r_il2 (q := 19) C dX4_becomeFirst_18 rfl ?_
  refine r_il3 (q := 20) C dX4_becomeFirst_19 rfl ?_
  refine r_iconst (q := 21) C dX4_becomeFirst_20 rfl ?_
  refine r_callVv (q := 24) C (c_X4_fillNewBars (fx := 1) (gx := Bn) hE (by omega) (by omega) (by omega)) m_X4_48 (by assumption) (by omega) dX4_becomeFirst_21 rfl rfl (by decide) (by decide) (Nat.le_of_ble_eq_true rfl) (fun σ2 hσ2 => ?_)
  subst hσ2
  refine r_al0 (q := 25) C dX4_becomeFirst_24 rfl ?_
  refine r_callVv (q := 28) C (c_X4_clearCopies hE) m_X4_52 (by assumption) (by omega) dX4_becomeFirst_25 rfl rfl (by decide) (by decide) (Nat.le_of_ble_eq_true rfl) (fun σ2 hσ2 => ?_)
  subst hσ2
  exact r_vret C hr dX4_becomeFirst_28 (by decide) (by decide) ⟨rfl, rfl, rfl⟩
set_option maxRecDepth 20000 in
set_option maxHeartbeats 8000000 in
theorem c_X4_becomeCopy {T : oT} {σ : oM} {eC aC Bn : Nat} {kx : Int} (hE : oEd T eC) (hA : oEd T aC) (hdis : eC + 13 ≤ aC ∨ aC + 13 ≤ eC) (hBn : σ aC 2 = (Bn : Int)) (hB2 : Bn ≤ 99) : MS yX4_becomeCopy cX4_becomeCopy 3 none 3 0 0 74 [og eC, og aC, oi kx] T σ (oPv (fun σ2 => σ2 = o_clr (o_up (o_like σ eC aC Bn) eC 1 kx) eC 6) T) := by
  have hEc := hE
  obtain ⟨hE0, hE3, hE4, hE5, hE6, hE7, hE8, hE9, hE10, hA1, hA2, hA3, hA4, hA5, hRw, hA10, hA11, hA12, hTe⟩ := hEc
  refine o_met (by decide +kernel) (Nat.le_of_ble_eq_true rfl) (fun p l ee s m args below meth c G b C hr hn => ?_)
  have C : oCx p s m args meth c G b RX4 cX4_becomeCopy 3 := C
  show oW p l ee ({ frames := 3, cells := 0, slots := 0, locals := 74 } : Room) s m args below meth c G b 3 0 0 (MQ below (o_Qc G b (oPv (fun σ2 => σ2 = o_clr (o_up (o_like σ eC aC Bn) eC 1 kx) eC 6) T)) args s 0 0 (fun q => b ≤ q)) T σ 0 [some (og eC), some (og aC), some (oi kx)] []
  refine r_al0 (q := 1) C dX4_becomeCopy_0 rfl ?_
  refine r_al1 (q := 2) C dX4_becomeCopy_1 rfl ?_
  refine r_callVv (q := 5) C (c_X4_becomeLike hE hA hdis hBn hB2) m_X4_55 (by assumption) (by omega) dX4_becomeCopy_2 rfl rfl (by decide) (by decide) (Nat.le_of_ble_eq_true rfl) (fun σ2 hσ2 => ?_)
  subst hσ2
  refine r_al0 (q := 6) C dX4_becomeCopy_5 rfl ?_
  refine r_il2 (q := 7) C dX4_becomeCopy_6 rfl ?_
  refine r_putI (q := 10) C fp_X4_9 dX4_becomeCopy_7 rfl rfl (by assumption) (by omega) ?_
  refine r_al0 (q := 11) C dX4_becomeCopy_10 rfl ?_
  refine r_callVv (q := 14) C (c_X4_clearCopies hE) m_X4_52 (by assumption) (by omega) dX4_becomeCopy_11 rfl rfl (by decide) (by decide) (Nat.le_of_ble_eq_true rfl) (fun σ2 hσ2 => ?_)
  subst hσ2
  exact r_vret C hr dX4_becomeCopy_14 (by decide) (by decide) ⟨rfl, rfl, rfl⟩
