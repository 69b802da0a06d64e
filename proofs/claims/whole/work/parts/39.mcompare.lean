def oFr (σ σ2 : oM) (mC : Nat) : Prop := (∀ x, x ≠ mC → (x < mC + 5 ∨ mC + 9 ≤ x) → σ2 x = σ x) ∧ ∀ k, k ≠ 12 → σ2 mC k = σ mC k
theorem oFr_rf {σ : oM} {mC : Nat} : oFr σ σ mC := ⟨fun _ _ _ => rfl, fun _ _ => rfl⟩
set_option maxRecDepth 20000 in
set_option maxHeartbeats 8000000 in
theorem c_X9_compare {T : oT} {σ : oM} {mC : Nat} (hM : oMm T mC) {Bd : Int} (hI : oI Bd (σ (mC + 1))) {z v w : Int} (hz : o_r z) (hv : o_r v) (hw : o_r w) : MS yX9_compare cX9_compare 8 (some FieldType.int) 4 0 0 92 [og mC, oi z, oi v, oi w] T σ (oPs (fun zx σ2 => zx = fCompare (σ (mC + 1)) z v w ∧ oFr σ σ2 mC) T) := by
  have hMc := hM
  obtain ⟨hM0, hMr0, hMr1, hMr2, hMr3, hMr8, hMr9, hMr10, hMr11, hMr13, hMr14, hMr15, hMr16, hMr17, hMr18, hMr19, hMr20, hMk1, hMk2, hMk3, hMk4, hMk5, hMk6, hMk7, hMk8, hMk9, hMk10, hMk11, hMk12, hMk13, hMk14, hMk15, hMk16, hMT⟩ := hMc
  have hI0 := hI.2.1
  have hI1 := hI.2.2.1
  have hI2 := hI.2.2.2.1
  have hIn := oI_n hI
  have hIB := hI.1
  refine o_met (by decide +kernel) (Nat.le_of_ble_eq_true rfl) (fun p l ee s m args below meth c G b C hr hn => ?_)
  have C : oCx p s m args meth c G b RX9 cX9_compare 8 := C
  show oW p l ee ({ frames := 4, cells := 0, slots := 0, locals := 92 } : Room) s m args below meth c G b 8 0 0 (MQ below (o_Qc G b (oPs (fun zx σ2 => zx = fCompare (σ (mC + 1)) z v w ∧ oFr σ σ2 mC) T)) args s 0 0 (fun q => b ≤ q)) T σ 0 [some (og mC), some (oi z), some (oi v), some (oi w), none, none, none, none] []
  refine r_al0 (q := 1) C dX9_compare_0 rfl ?_
  refine r_il1 (q := 2) C dX9_compare_1 rfl ?_
  refine r_callVb (q := 5) C (c_X9_isEdition hM hI (by omega)) m_X9_112 (by assumption) (by omega) dX9_compare_2 rfl rfl (by decide) (by decide) (Nat.le_of_ble_eq_true rfl) (fun br2 => ?_) (fun br2 => ?_)
  · refine r_ifeq_f (q := 25) (q2 := 8) C (by decide) (by omega) dX9_compare_5 (by decide) rfl ?_
    refine r_al0 (q := 9) C dX9_compare_8 rfl ?_
    refine r_il2 (q := 10) C dX9_compare_9 rfl ?_
    refine r_callVb (q := 13) C (c_X9_isEdition hM hI (by omega)) m_X9_112 (by assumption) (by omega) dX9_compare_10 rfl rfl (by decide) (by decide) (Nat.le_of_ble_eq_true rfl) (fun br10 => ?_) (fun br10 => ?_)
    · refine r_ifeq_f (q := 25) (q2 := 16) C (by decide) (by omega) dX9_compare_13 (by decide) rfl ?_
      refine r_il3 (q := 17) C dX9_compare_16 rfl ?_
      refine r_iconst (q := 18) C dX9_compare_17 rfl ?_
      refine r_iconst (q := 19) C dX9_compare_18 rfl ?_
      refine r_callSb (q := 22) C (c_X9_in hw (by omega) (by omega)) m_X9_108 dX9_compare_19 rfl rfl (by decide) (by decide) (Nat.le_of_ble_eq_true rfl) (fun br19 => ?_) (fun br19 => ?_)
      · refine r_ifne_t (q := 27) C (by decide) (by omega) dX9_compare_22 (by decide) ?_
        have hs := fCompare.eq_1 (σ (mC + 1)) z v w
        rw [if_pos ⟨br2, br10, br19⟩] at hs
        obtain ⟨eN, rfl, heN, heN6⟩ := isEd_n hI br2
        have hIE := oI_b hI heN
        obtain ⟨kN, rfl, hkN, hkN6⟩ := isEd_n hI br10
        have hIK := oI_b hI hkN
        simp only [Int.toNat_natCast] at hs
        refine r_al0 (q := 28) C dX9_compare_27 rfl ?_
        refine r_il1 (q := 29) C dX9_compare_28 rfl ?_
        refine r_il2 (q := 30) C dX9_compare_29 rfl ?_
        refine r_callVb (q := 33) C (c_X9_areOfOneWork hM hI heN hkN) m_X9_155 (by assumption) (by omega) dX9_compare_30 rfl rfl (by decide) (by decide) (Nat.le_of_ble_eq_true rfl) (fun br30 => ?_) (fun br30 => ?_)
        · refine r_ifne_t (q := 39) C (by decide) (by omega) dX9_compare_33 (by decide) ?_
          rw [if_pos br30] at hs
          refine r_il3 (q := 40) C dX9_compare_39 rfl ?_
          refine r_iconst (q := 41) C dX9_compare_40 rfl ?_
          refine r_icne (q := 55) (q2 := 44) C (by omega) (by omega) dX9_compare_41 (by decide) rfl (fun br41 => ?_) (fun br41 => ?_)
          · have ho := ordP_of hI heN hkN br30
            refine r_iconst (q := 56) C dX9_compare_55 rfl ?_
            refine r_is4 (q := 58) C dX9_compare_56 rfl (by decide) ?_
            refine r_iconst (q := 59) C dX9_compare_58 rfl ?_
            refine r_is5 (q := 61) C dX9_compare_59 rfl (by decide) ?_
            refine r_iconst (q := 62) C dX9_compare_61 rfl ?_
            refine r_is6 (q := 64) C dX9_compare_62 rfl (by decide) ?_
            have lp : ∀ (n : Nat) (jx : Nat) (w7 : Option oV), nBr (σ (mC + 1)) eN + 1 - jx < n → (1 ≤ jx ∧ jx ≤ nBr (σ (mC + 1)) eN + 1) → oW p l ee ({ frames := 4, cells := 0, slots := 0, locals := 92 } : Room) s m args below meth c G b 8 0 0 (MQ below (o_Qc G b (oPs (fun zx σ2 => zx = fCompare (σ (mC + 1)) (eN : Int) (kN : Int) w ∧ oFr σ σ2 mC) T)) args s 0 0 (fun q => b ≤ q)) T σ 64 [some (og mC), some (oi ((eN : Nat) : Int)), some (oi ((kN : Nat) : Int)), some (oi w), some (oi (((trA (σ (mC + 1)) eN kN (jx - 1)).2.1 : Nat) : Int)), some (oi (((trA (σ (mC + 1)) eN kN (jx - 1)).2.2.1 : Nat) : Int)), some (oi ((jx : Nat) : Int)), w7] [] := by
              intro n
              induction n with
              | zero =>
                intro jx w7 hms
                exact absurd hms (Nat.not_lt_zero _)
              | succ n ih =>
                intro jx w7 hms h1
                refine r_il6 (q := 66) C dX9_compare_64 rfl ?_
                refine r_al0 (q := 67) C dX9_compare_66 rfl ?_
                refine r_il1 (q := 68) C dX9_compare_67 rfl ?_
                refine r_callV1 (q := 71) C (c_X9_bars hM (by omega)) m_X9_116 (by assumption) (by omega) dX9_compare_68 rfl rfl (by decide) (by decide) (Nat.le_of_ble_eq_true rfl) ?_
                rw [← hIE.2.1]
                refine r_icgt (q := 133) (q2 := 74) C (by omega) (by omega) dX9_compare_71 (by decide) rfl (fun br71 => ?_) (fun br71 => ?_)
                · rw [show jx - 1 = nBr (σ (mC + 1)) eN by omega]
                  refine r_il3 (q := 134) C dX9_compare_133 rfl ?_
                  refine r_ifne (q := 142) (q2 := 137) C (by omega) dX9_compare_134 (by decide) rfl (fun br134 => ?_) (fun br134 => ?_)
                  · refine r_il3 (q := 143) C dX9_compare_142 rfl ?_
                    refine r_iconst (q := 144) C dX9_compare_143 rfl ?_
                    refine r_icne (q := 152) (q2 := 147) C (by omega) (by omega) dX9_compare_144 (by decide) rfl (fun br144 => ?_) (fun br144 => ?_)
                    · refine r_il3 (q := 153) C dX9_compare_152 rfl ?_
                      refine r_iconst (q := 154) C dX9_compare_153 rfl ?_
                      refine r_icne (q := 168) (q2 := 157) C (by omega) (by omega) dX9_compare_154 (by decide) rfl (fun br154 => ?_) (fun br154 => ?_)
                      · refine r_al0 (q := 169) C dX9_compare_168 rfl ?_
                        refine r_il2 (q := 170) C dX9_compare_169 rfl ?_
                        refine r_callV1 (q := 173) C (c_X9_bars hM (by omega)) m_X9_116 (by assumption) (by omega) dX9_compare_170 rfl rfl (by decide) (by decide) (Nat.le_of_ble_eq_true rfl) ?_
                        refine r_il4 (q := 175) C dX9_compare_173 rfl ?_
                        refine r_isub (q := 176) C dX9_compare_175 rfl ?_
                        exact r_iret C hr dX9_compare_176 (by decide) (by decide) ⟨_, rfl, rfl, by rw [hs, if_neg (by omega), if_neg (by omega), if_neg (by omega), if_pos (by omega)], oFr_rf⟩
                      · refine r_al0 (q := 158) C dX9_compare_157 rfl ?_
                        refine r_il1 (q := 159) C dX9_compare_158 rfl ?_
                        refine r_callV1 (q := 162) C (c_X9_bars hM (by omega)) m_X9_116 (by assumption) (by omega) dX9_compare_159 rfl rfl (by decide) (by decide) (Nat.le_of_ble_eq_true rfl) ?_
                        refine r_il4 (q := 164) C dX9_compare_162 rfl ?_
                        refine r_isub (q := 165) C dX9_compare_164 rfl ?_
                        refine r_goto (q := 176) C dX9_compare_165 (by decide) ?_
                        exact r_iret C hr dX9_compare_176 (by decide) (by decide) ⟨_, rfl, rfl, by rw [hs, if_neg (by omega), if_neg (by omega), if_pos (by omega)], oFr_rf⟩
                    · refine r_il5 (q := 149) C dX9_compare_147 rfl ?_
                      refine r_goto (q := 176) C dX9_compare_149 (by decide) ?_
                      exact r_iret C hr dX9_compare_176 (by decide) (by decide) ⟨_, rfl, rfl, by rw [hs, if_neg (by omega), if_pos (by omega)], oFr_rf⟩
                  · refine r_il4 (q := 139) C dX9_compare_137 rfl ?_
                    refine r_goto (q := 176) C dX9_compare_139 (by decide) ?_
                    exact r_iret C hr dX9_compare_176 (by decide) (by decide) ⟨_, rfl, rfl, by rw [hs, if_pos (by omega)], oFr_rf⟩
                · refine r_al0 (q := 75) C dX9_compare_74 rfl ?_
                  refine r_il1 (q := 76) C dX9_compare_75 rfl ?_
                  refine r_il6 (q := 78) C dX9_compare_76 rfl ?_
                  refine r_il2 (q := 79) C dX9_compare_78 rfl ?_
                  refine r_callV1 (q := 82) C (c_X9_carried (eN := eN) (bN := jx) (kN := kN) hM hI heN ⟨by omega, by omega⟩ hkN) m_X9_158 (by assumption) (by omega) dX9_compare_79 rfl rfl (by decide) (by decide) (Nat.le_of_ble_eq_true rfl) ?_
                  have hcr := car_r (A := σ (mC + 1)) (eN := eN) (bN := jx) (kN := kN) (by omega)
                  refine r_is7 (q := 84) C dX9_compare_82 rfl (by decide) ?_
                  refine r_il4 (q := 86) C dX9_compare_84 rfl ?_
                  refine r_il7 (q := 88) C dX9_compare_86 rfl ?_
                  refine r_ifle (q := 95) (q2 := 91) C hcr dX9_compare_88 (by decide) rfl (fun br88 => ?_) (fun br88 => ?_)
                  · have hcc := car_lt.mp (show carF (σ (mC + 1)) eN jx kN < 0 by rcases carF_in (A := σ (mC + 1)) (eN := eN) (bN := jx) (kN := kN) with h | ⟨tN, h, t1, -⟩ <;> omega)
                    refine r_iconst (q := 96) C dX9_compare_95 rfl ?_
                    refine r_iadd (q := 97) C dX9_compare_96 rfl ?_
                    refine r_is4 (q := 99) C dX9_compare_97 rfl (by decide) ?_
                    refine r_il5 (q := 101) C dX9_compare_99 rfl ?_
                    refine r_il7 (q := 103) C dX9_compare_101 rfl ?_
                    refine r_ifle_t (q := 123) C br88 hcr dX9_compare_103 (by decide) ?_
                    refine r_iconst (q := 124) C dX9_compare_123 rfl ?_
                    refine r_iadd (q := 125) C dX9_compare_124 rfl ?_
                    refine r_is5 (q := 127) C dX9_compare_125 rfl (by decide) ?_
                    refine r_iinc6 (q := 130) C dX9_compare_127 rfl (by decide) ?_
                    refine r_goto (q := 64) C dX9_compare_130 (by decide) ?_
                    have hs0 := tr_s0 (v1 := (fun j => (σ (mC + 1)) (191 + 813 * eN + 8 * j))) (v2 := (fun j => (σ (mC + 1)) (191 + 813 * kN + 8 * j))) ho (n := jx - 1) (by omega) (by rw [show jx - 1 + 1 = jx by omega]; exact hcc)
                    rw [show jx - 1 + 1 = jx by omega] at hs0
                    have e1 : (((trA (σ (mC + 1)) eN kN (jx - 1)).2.1 : Nat) : Int) + 0 = (((trA (σ (mC + 1)) eN kN (jx + 1 - 1)).2.1 : Nat) : Int) := by
                      rw [show jx + 1 - 1 = jx by omega]
                      unfold trA
                      rw [hs0]
                      rw [Int.add_zero]
                    have e2 : (((trA (σ (mC + 1)) eN kN (jx - 1)).2.2.1 : Nat) : Int) + 0 = (((trA (σ (mC + 1)) eN kN (jx + 1 - 1)).2.2.1 : Nat) : Int) := by
                      rw [show jx + 1 - 1 = jx by omega]
                      unfold trA
                      rw [hs0]
                      rw [Int.add_zero]
                    rw [e1, e2]
                    exact ih (jx + 1) _ (by omega) (by omega)
                  · obtain ⟨tN, htN, t1, t2, -⟩ := (carF_in (A := σ (mC + 1)) (eN := eN) (bN := jx) (kN := kN)).resolve_left (by omega)
                    have hcc := (car_eq t1).mp htN
                    rw [htN]
                    refine r_iconst (q := 92) C dX9_compare_91 rfl ?_
                    refine r_goto (q := 96) C dX9_compare_92 (by decide) ?_
                    refine r_iadd (q := 97) C dX9_compare_96 rfl ?_
                    refine r_is4 (q := 99) C dX9_compare_97 rfl (by decide) ?_
                    refine r_il5 (q := 101) C dX9_compare_99 rfl ?_
                    refine r_il7 (q := 103) C dX9_compare_101 rfl ?_
                    refine r_ifle_f (q := 123) (q2 := 106) C (by omega) (by omega) dX9_compare_103 (by decide) rfl ?_
                    refine r_al0 (q := 107) C dX9_compare_106 rfl ?_
                    refine r_il1 (q := 108) C dX9_compare_107 rfl ?_
                    refine r_il6 (q := 110) C dX9_compare_108 rfl ?_
                    refine r_il2 (q := 111) C dX9_compare_110 rfl ?_
                    refine r_il7 (q := 113) C dX9_compare_111 rfl ?_
                    refine r_callVb (q := 116) C (c_X9_isSame (eN := eN) (aN := jx) (kN := kN) (dN := tN) hM hI heN ⟨by omega, by omega⟩ hkN ⟨t1, t2⟩) m_X9_166 (by assumption) (by omega) dX9_compare_113 rfl rfl (by decide) (by decide) (Nat.le_of_ble_eq_true rfl) (fun br113 => ?_) (fun br113 => ?_)
                    · refine r_ifeq_f (q := 123) (q2 := 119) C (by decide) (by omega) dX9_compare_116 (by decide) rfl ?_
                      refine r_iconst (q := 120) C dX9_compare_119 rfl ?_
                      refine r_goto (q := 124) C dX9_compare_120 (by decide) ?_
                      refine r_iadd (q := 125) C dX9_compare_124 rfl ?_
                      refine r_is5 (q := 127) C dX9_compare_125 rfl (by decide) ?_
                      refine r_iinc6 (q := 130) C dX9_compare_127 rfl (by decide) ?_
                      refine r_goto (q := 64) C dX9_compare_130 (by decide) ?_
                      have hs0 := tr_s1 (v1 := (fun j => (σ (mC + 1)) (191 + 813 * eN + 8 * j))) (v2 := (fun j => (σ (mC + 1)) (191 + 813 * kN + 8 * j))) ho (n := jx - 1) (by omega) (by rw [show jx - 1 + 1 = jx by omega, hcc]; omega) (by rw [show jx - 1 + 1 = jx by omega, hcc]; exact br113)
                      rw [show jx - 1 + 1 = jx by omega, hcc] at hs0
                      have e1 : (((trA (σ (mC + 1)) eN kN (jx - 1)).2.1 : Nat) : Int) + 1 = (((trA (σ (mC + 1)) eN kN (jx + 1 - 1)).2.1 : Nat) : Int) := by
                        rw [show jx + 1 - 1 = jx by omega]
                        unfold trA
                        rw [hs0]
                        rfl
                      have e2 : (((trA (σ (mC + 1)) eN kN (jx - 1)).2.2.1 : Nat) : Int) + 1 = (((trA (σ (mC + 1)) eN kN (jx + 1 - 1)).2.2.1 : Nat) : Int) := by
                        rw [show jx + 1 - 1 = jx by omega]
                        unfold trA
                        rw [hs0]
                        rfl
                      rw [e1, e2]
                      exact ih (jx + 1) _ (by omega) (by omega)
                    · refine r_ifeq_t (q := 123) C (by decide) (by omega) dX9_compare_116 (by decide) ?_
                      refine r_iconst (q := 124) C dX9_compare_123 rfl ?_
                      refine r_iadd (q := 125) C dX9_compare_124 rfl ?_
                      refine r_is5 (q := 127) C dX9_compare_125 rfl (by decide) ?_
                      refine r_iinc6 (q := 130) C dX9_compare_127 rfl (by decide) ?_
                      refine r_goto (q := 64) C dX9_compare_130 (by decide) ?_
                      have hs0 := tr_s2 (v1 := (fun j => (σ (mC + 1)) (191 + 813 * eN + 8 * j))) (v2 := (fun j => (σ (mC + 1)) (191 + 813 * kN + 8 * j))) ho (n := jx - 1) (by omega) (by rw [show jx - 1 + 1 = jx by omega, hcc]; omega) (by rw [show jx - 1 + 1 = jx by omega, hcc]; exact br113)
                      rw [show jx - 1 + 1 = jx by omega, hcc] at hs0
                      have e1 : (((trA (σ (mC + 1)) eN kN (jx - 1)).2.1 : Nat) : Int) + 1 = (((trA (σ (mC + 1)) eN kN (jx + 1 - 1)).2.1 : Nat) : Int) := by
                        rw [show jx + 1 - 1 = jx by omega]
                        unfold trA
                        rw [hs0]
                        rfl
                      have e2 : (((trA (σ (mC + 1)) eN kN (jx - 1)).2.2.1 : Nat) : Int) + 0 = (((trA (σ (mC + 1)) eN kN (jx + 1 - 1)).2.2.1 : Nat) : Int) := by
                        rw [show jx + 1 - 1 = jx by omega]
                        unfold trA
                        rw [hs0]
                        rw [Int.add_zero]
                      rw [e1, e2]
                      exact ih (jx + 1) _ (by omega) (by omega)
            exact lp _ 1 none (Nat.lt_succ_self _) (by omega)
          · refine r_al0 (q := 45) C dX9_compare_44 rfl ?_
            refine r_il1 (q := 46) C dX9_compare_45 rfl ?_
            refine r_il2 (q := 47) C dX9_compare_46 rfl ?_
            refine r_callVv (q := 50) C (c_X9_finds (eN := eN) (kN := kN) hM hI heN hkN br30) m_X9_170 (by assumption) (by omega) dX9_compare_47 rfl rfl (by decide) (by decide) (Nat.le_of_ble_eq_true rfl) (fun σ2 hσ2 => ?_)
            refine r_al0 (q := 51) C dX9_compare_50 rfl ?_
            refine r_getI (q := 54) C f_X9_49 dX9_compare_51 rfl rfl (by assumption) (by omega) ?_
            rw [hσ2.1.1]
            exact r_iret C hr dX9_compare_54 (by decide) (by decide) ⟨_, rfl, rfl, by rw [hs, if_neg (by omega), if_neg (by omega), if_neg (by omega), if_neg (by omega)], hσ2.2⟩
        · refine r_ifne_f (q := 39) (q2 := 36) C (by decide) (by omega) dX9_compare_33 (by decide) rfl ?_
          refine r_bipush (q := 38) C dX9_compare_36 (by decide) rfl ?_
          exact r_iret C hr dX9_compare_38 (by decide) (by decide) ⟨_, rfl, rfl, by rw [hs, if_neg br30], oFr_rf⟩
      · refine r_ifne_f (q := 27) (q2 := 25) C (by decide) (by omega) dX9_compare_22 (by decide) rfl ?_
        refine r_iconst (q := 26) C dX9_compare_25 rfl ?_
        exact r_iret C hr dX9_compare_26 (by decide) (by decide) ⟨_, rfl, rfl, by rw [fCompare, if_neg (fun hc => br19 hc.2.2)], oFr_rf⟩
    · refine r_ifeq_t (q := 25) C (by decide) (by omega) dX9_compare_13 (by decide) ?_
      refine r_iconst (q := 26) C dX9_compare_25 rfl ?_
      exact r_iret C hr dX9_compare_26 (by decide) (by decide) ⟨_, rfl, rfl, by rw [fCompare, if_neg (fun hc => br10 hc.2.1)], oFr_rf⟩
  · refine r_ifeq_t (q := 25) C (by decide) (by omega) dX9_compare_5 (by decide) ?_
    refine r_iconst (q := 26) C dX9_compare_25 rfl ?_
    exact r_iret C hr dX9_compare_26 (by decide) (by decide) ⟨_, rfl, rfl, by rw [fCompare, if_neg (fun hc => br2 hc.1)], oFr_rf⟩
set_option maxRecDepth 20000 in
set_option maxHeartbeats 8000000 in
theorem c_X9_difference {T : oT} {σ : oM} {mC : Nat} (hM : oMm T mC) {Bd : Int} (hI : oI Bd (σ (mC + 1))) {z v ix w : Int} (hz : o_r z) (hv : o_r v) (hix : o_r ix) (hw : o_r w) : MS yX9_difference cX9_difference 5 (some FieldType.int) 4 0 0 92 [og mC, oi z, oi v, oi ix, oi w] T σ (oPs (fun zx σ2 => zx = fDiff (σ (mC + 1)) z v ix w ∧ oFr σ σ2 mC) T) := by
  have hMc := hM
  obtain ⟨hM0, hMr0, hMr1, hMr2, hMr3, hMr8, hMr9, hMr10, hMr11, hMr13, hMr14, hMr15, hMr16, hMr17, hMr18, hMr19, hMr20, hMk1, hMk2, hMk3, hMk4, hMk5, hMk6, hMk7, hMk8, hMk9, hMk10, hMk11, hMk12, hMk13, hMk14, hMk15, hMk16, hMT⟩ := hMc
  have hI0 := hI.2.1
  have hI1 := hI.2.2.1
  have hI2 := hI.2.2.2.1
  have hIn := oI_n hI
  have hIB := hI.1
  refine o_met (by decide +kernel) (Nat.le_of_ble_eq_true rfl) (fun p l ee s m args below meth c G b C hr hn => ?_)
  have C : oCx p s m args meth c G b RX9 cX9_difference 5 := C
  show oW p l ee ({ frames := 4, cells := 0, slots := 0, locals := 92 } : Room) s m args below meth c G b 5 0 0 (MQ below (o_Qc G b (oPs (fun zx σ2 => zx = fDiff (σ (mC + 1)) z v ix w ∧ oFr σ σ2 mC) T)) args s 0 0 (fun q => b ≤ q)) T σ 0 [some (og mC), some (oi z), some (oi v), some (oi ix), some (oi w)] []
  refine r_al0 (q := 1) C dX9_difference_0 rfl ?_
  refine r_il1 (q := 2) C dX9_difference_1 rfl ?_
  refine r_callVb (q := 5) C (c_X9_isEdition hM hI (by omega)) m_X9_112 (by assumption) (by omega) dX9_difference_2 rfl rfl (by decide) (by decide) (Nat.le_of_ble_eq_true rfl) (fun br2 => ?_) (fun br2 => ?_)
  · refine r_ifeq_f (q := 30) (q2 := 8) C (by decide) (by omega) dX9_difference_5 (by decide) rfl ?_
    refine r_al0 (q := 9) C dX9_difference_8 rfl ?_
    refine r_il2 (q := 10) C dX9_difference_9 rfl ?_
    refine r_callVb (q := 13) C (c_X9_isEdition hM hI (by omega)) m_X9_112 (by assumption) (by omega) dX9_difference_10 rfl rfl (by decide) (by decide) (Nat.le_of_ble_eq_true rfl) (fun br10 => ?_) (fun br10 => ?_)
    · refine r_ifeq_f (q := 30) (q2 := 16) C (by decide) (by omega) dX9_difference_13 (by decide) rfl ?_
      refine r_il3 (q := 17) C dX9_difference_16 rfl ?_
      refine r_iflt (q := 30) (q2 := 20) C (by omega) dX9_difference_17 (by decide) rfl (fun br17 => ?_) (fun br17 => ?_)
      · refine r_iconst (q := 31) C dX9_difference_30 rfl ?_
        exact r_iret C hr dX9_difference_31 (by decide) (by decide) ⟨_, rfl, rfl, by rw [fDiff, if_neg (fun hc => by have := hc.2.2.1; omega)], oFr_rf⟩
      · refine r_il4 (q := 22) C dX9_difference_20 rfl ?_
        refine r_iconst (q := 23) C dX9_difference_22 rfl ?_
        refine r_iconst (q := 24) C dX9_difference_23 rfl ?_
        refine r_callSb (q := 27) C (c_X9_in hw (by omega) (by omega)) m_X9_108 dX9_difference_24 rfl rfl (by decide) (by decide) (Nat.le_of_ble_eq_true rfl) (fun br24 => ?_) (fun br24 => ?_)
        · refine r_ifne_t (q := 32) C (by decide) (by omega) dX9_difference_27 (by decide) ?_
          have hs := fDiff.eq_1 (σ (mC + 1)) z v ix w
          rw [if_pos ⟨br2, br10, by omega, br24⟩] at hs
          obtain ⟨eN, rfl, heN, heN6⟩ := isEd_n hI br2
          have hIE := oI_b hI heN
          obtain ⟨kN, rfl, hkN, hkN6⟩ := isEd_n hI br10
          have hIK := oI_b hI hkN
          simp only [Int.toNat_natCast] at hs
          refine r_al0 (q := 33) C dX9_difference_32 rfl ?_
          refine r_il1 (q := 34) C dX9_difference_33 rfl ?_
          refine r_il2 (q := 35) C dX9_difference_34 rfl ?_
          refine r_callVb (q := 38) C (c_X9_areOfOneWork hM hI heN hkN) m_X9_155 (by assumption) (by omega) dX9_difference_35 rfl rfl (by decide) (by decide) (Nat.le_of_ble_eq_true rfl) (fun br35 => ?_) (fun br35 => ?_)
          · refine r_ifne_t (q := 44) C (by decide) (by omega) dX9_difference_38 (by decide) ?_
            rw [if_pos br35] at hs
            have hlen := runsA_len hI heN hkN
            refine r_al0 (q := 45) C dX9_difference_44 rfl ?_
            refine r_il1 (q := 46) C dX9_difference_45 rfl ?_
            refine r_il2 (q := 47) C dX9_difference_46 rfl ?_
            refine r_callVv (q := 50) C (c_X9_finds (eN := eN) (kN := kN) hM hI heN hkN br35) m_X9_170 (by assumption) (by omega) dX9_difference_47 rfl rfl (by decide) (by decide) (Nat.le_of_ble_eq_true rfl) (fun σ2 hσ2 => ?_)
            refine r_il3 (q := 51) C dX9_difference_50 rfl ?_
            refine r_al0 (q := 52) C dX9_difference_51 rfl ?_
            refine r_getI (q := 55) C f_X9_49 dX9_difference_52 rfl rfl (by assumption) (by omega) ?_
            rw [hσ2.1.1]
            refine r_iclt (q := 61) (q2 := 58) C (by omega) (by omega) dX9_difference_55 (by decide) rfl (fun br55 => ?_) (fun br55 => ?_)
            · obtain ⟨rx, hrx⟩ : ∃ rx, (runsA (σ (mC + 1)) eN kN)[ix.toNat]? = some rx := ⟨(runsA (σ (mC + 1)) eN kN)[ix.toNat]'(by omega), List.getElem?_eq_getElem (by omega)⟩
              rw [hrx] at hs
              obtain ⟨r1, r2, r3, r4⟩ := hσ2.1.2 _ _ hrx
              refine r_il4 (q := 63) C dX9_difference_61 rfl ?_
              refine r_ifne (q := 75) (q2 := 66) C (by omega) dX9_difference_63 (by decide) rfl (fun br63 => ?_) (fun br63 => ?_)
              · refine r_il4 (q := 77) C dX9_difference_75 rfl ?_
                refine r_iconst (q := 78) C dX9_difference_77 rfl ?_
                refine r_icne (q := 90) (q2 := 81) C (by omega) (by omega) dX9_difference_78 (by decide) rfl (fun br78 => ?_) (fun br78 => ?_)
                · refine r_il4 (q := 92) C dX9_difference_90 rfl ?_
                  refine r_iconst (q := 93) C dX9_difference_92 rfl ?_
                  refine r_icne (q := 105) (q2 := 96) C (by omega) (by omega) dX9_difference_93 (by decide) rfl (fun br93 => ?_) (fun br93 => ?_)
                  · refine r_al0 (q := 106) C dX9_difference_105 rfl ?_
                    refine r_getR (q := 109) C f_X9_46 dX9_difference_106 rfl rfl (by assumption) (by assumption) (by omega) ?_
                    refine r_il3 (q := 110) C dX9_difference_109 rfl ?_
                    refine r_iald (q := 111) C (ix.toNat) dX9_difference_110 rfl (by assumption) (by omega) (by omega) (by omega) (by decide) ?_
                    exact r_iret C hr dX9_difference_111 (by decide) (by decide) ⟨_, rfl, rfl, by rw [hs]; show _ = runK rx w; rw [runK, if_neg (by omega), if_neg (by omega), if_neg (by omega)]; exact r4, hσ2.2⟩
                  · refine r_al0 (q := 97) C dX9_difference_96 rfl ?_
                    refine r_getR (q := 100) C f_X9_43 dX9_difference_97 rfl rfl (by assumption) (by assumption) (by omega) ?_
                    refine r_il3 (q := 101) C dX9_difference_100 rfl ?_
                    refine r_iald (q := 102) C (ix.toNat) dX9_difference_101 rfl (by assumption) (by omega) (by omega) (by omega) (by decide) ?_
                    refine r_goto (q := 111) C dX9_difference_102 (by decide) ?_
                    exact r_iret C hr dX9_difference_111 (by decide) (by decide) ⟨_, rfl, rfl, by rw [hs]; show _ = runK rx w; rw [runK, if_neg (by omega), if_neg (by omega), if_pos (by omega)]; exact r3, hσ2.2⟩
                · refine r_al0 (q := 82) C dX9_difference_81 rfl ?_
                  refine r_getR (q := 85) C f_X9_40 dX9_difference_82 rfl rfl (by assumption) (by assumption) (by omega) ?_
                  refine r_il3 (q := 86) C dX9_difference_85 rfl ?_
                  refine r_iald (q := 87) C (ix.toNat) dX9_difference_86 rfl (by assumption) (by omega) (by omega) (by omega) (by decide) ?_
                  refine r_goto (q := 111) C dX9_difference_87 (by decide) ?_
                  exact r_iret C hr dX9_difference_111 (by decide) (by decide) ⟨_, rfl, rfl, by rw [hs]; show _ = runK rx w; rw [runK, if_neg (by omega), if_pos (by omega)]; exact r2, hσ2.2⟩
              · refine r_al0 (q := 67) C dX9_difference_66 rfl ?_
                refine r_getR (q := 70) C f_X9_37 dX9_difference_67 rfl rfl (by assumption) (by assumption) (by omega) ?_
                refine r_il3 (q := 71) C dX9_difference_70 rfl ?_
                refine r_iald (q := 72) C (ix.toNat) dX9_difference_71 rfl (by assumption) (by omega) (by omega) (by omega) (by decide) ?_
                refine r_goto (q := 111) C dX9_difference_72 (by decide) ?_
                exact r_iret C hr dX9_difference_111 (by decide) (by decide) ⟨_, rfl, rfl, by rw [hs]; show _ = runK rx w; rw [runK, if_pos (by omega)]; exact r1, hσ2.2⟩
            · refine r_bipush (q := 60) C dX9_difference_58 (by decide) rfl ?_
              exact r_iret C hr dX9_difference_60 (by decide) (by decide) ⟨_, rfl, rfl, by rw [hs, List.getElem?_eq_none (by omega)], hσ2.2⟩
          · refine r_ifne_f (q := 44) (q2 := 41) C (by decide) (by omega) dX9_difference_38 (by decide) rfl ?_
            refine r_bipush (q := 43) C dX9_difference_41 (by decide) rfl ?_
            exact r_iret C hr dX9_difference_43 (by decide) (by decide) ⟨_, rfl, rfl, by rw [hs, if_neg br35], oFr_rf⟩
        · refine r_ifne_f (q := 32) (q2 := 30) C (by decide) (by omega) dX9_difference_27 (by decide) rfl ?_
          refine r_iconst (q := 31) C dX9_difference_30 rfl ?_
          exact r_iret C hr dX9_difference_31 (by decide) (by decide) ⟨_, rfl, rfl, by rw [fDiff, if_neg (fun hc => br24 hc.2.2.2)], oFr_rf⟩
    · refine r_ifeq_t (q := 30) C (by decide) (by omega) dX9_difference_13 (by decide) ?_
      refine r_iconst (q := 31) C dX9_difference_30 rfl ?_
      exact r_iret C hr dX9_difference_31 (by decide) (by decide) ⟨_, rfl, rfl, by rw [fDiff, if_neg (fun hc => br10 hc.2.1)], oFr_rf⟩
  · refine r_ifeq_t (q := 30) C (by decide) (by omega) dX9_difference_5 (by decide) ?_
    refine r_iconst (q := 31) C dX9_difference_30 rfl ?_
    exact r_iret C hr dX9_difference_31 (by decide) (by decide) ⟨_, rfl, rfl, by rw [fDiff, if_neg (fun hc => br2 hc.1)], oFr_rf⟩
