theorem brgA_e {A : Nat → Int} {lN eN iN : Nat} {gd bd fee : Int} (hl : lN < 20) : updF (updF (updF (updF (updF A (181 + 813 * eN + 3 * iN) (A (181 + 813 * eN + 3 * iN) - (gd + bd))) (182 + 813 * eN + 3 * iN) (A (182 + 813 * eN + 3 * iN) + bd)) (21 + 8 * lN) (A (21 + 8 * lN) - (gd + bd))) (23 + 8 * lN) (A (23 + 8 * lN) + fee)) (24 + 8 * lN) (A (24 + 8 * lN) + bd) = brgA A lN eN iN gd bd fee := by
  funext x
  unfold brgA
  by_cases h1 : x = 24 + 8 * lN
  · rw [h1, updF_at, if_neg (by omega), if_neg (by omega), if_pos rfl]
  · rw [updF_ne h1]
    by_cases h2 : x = 23 + 8 * lN
    · rw [h2, updF_at, if_neg (by omega), if_pos rfl]
    · rw [updF_ne h2]
      by_cases h3 : x = 21 + 8 * lN
      · rw [h3, updF_at, if_pos rfl]
      · rw [updF_ne h3, if_neg h3, if_neg h2, if_neg h1]
        by_cases h4 : x = 182 + 813 * eN + 3 * iN
        · rw [h4, updF_at, if_neg (by omega), if_pos rfl]
        · rw [updF_ne h4, if_neg h4]
          by_cases h5 : x = 181 + 813 * eN + 3 * iN
          · rw [h5, updF_at, if_pos rfl]
          · rw [updF_ne h5, if_neg h5]
set_option maxRecDepth 20000 in
set_option maxHeartbeats 8000000 in
theorem c_X9_bring {T : oT} {σ : oM} {mC : Nat} (hM : oMm T mC) {Bd : Int} (hI : oI Bd (σ (mC + 1))) {Lh : List (Nat → Int)} (hH : oMH σ mC Lh) (h7 : σ mC 7 = 0 ∨ σ mC 7 = 1) {z v w : Int} (hz : o_r z) (hv : o_r v) (hw : o_r w) : MS yX9_bring cX9_bring 7 (some FieldType.int) 3 0 0 66 [og mC, oi z, oi v, oi w] T σ (oPs (fun zx σ2 => zx = (fBring (σ (mC + 1)) (σ mC 5) z v w).1 ∧ oMc σ σ2 mC (fBring (σ (mC + 1)) (σ mC 5) z v w).2.1 (settleL (fBring (σ (mC + 1)) (σ mC 5) z v w).1 (σ mC 7) Lh (σ (mC + 1))) (fBring (σ (mC + 1)) (σ mC 5) z v w).2.2) T) := by
  have hMc := hM
  obtain ⟨hM0, hMr0, hMr1, hMr2, hMr3, hMr8, hMr9, hMr10, hMr11, hMr13, hMr14, hMr15, hMr16, hMr17, hMr18, hMr19, hMr20, hMk1, hMk2, hMk3, hMk4, hMk5, hMk6, hMk7, hMk8, hMk9, hMk10, hMk11, hMk12, hMk13, hMk14, hMk15, hMk16, hMT⟩ := hMc
  have hI0 := hI.2.1
  have hI1 := hI.2.2.1
  have hI2 := hI.2.2.2.1
  have hIn := oI_n hI
  have hIB := hI.1
  refine o_met (by decide +kernel) (Nat.le_of_ble_eq_true rfl) (fun p l ee s m args below meth c G b C hr hn => ?_)
  have C : oCx p s m args meth c G b RX9 cX9_bring 7 := C
  show oW p l ee ({ frames := 3, cells := 0, slots := 0, locals := 66 } : Room) s m args below meth c G b 7 0 0 (MQ below (o_Qc G b (oPs (fun zx σ2 => zx = (fBring (σ (mC + 1)) (σ mC 5) z v w).1 ∧ oMc σ σ2 mC (fBring (σ (mC + 1)) (σ mC 5) z v w).2.1 (settleL (fBring (σ (mC + 1)) (σ mC 5) z v w).1 (σ mC 7) Lh (σ (mC + 1))) (fBring (σ (mC + 1)) (σ mC 5) z v w).2.2) T)) args s 0 0 (fun q => b ≤ q)) T σ 0 [some (og mC), some (oi z), some (oi v), some (oi w), none, none, none] []
  
  refine r_il1 (q := 1) C dX9_bring_0 rfl ?_
  refine r_iconst (q := 2) C dX9_bring_1 rfl ?_
  refine r_al0 (q := 3) C dX9_bring_2 rfl ?_
  refine r_getR (q := 6) C f_X9_9 dX9_bring_3 rfl rfl (by assumption) (by assumption) (by omega) ?_
  refine r_iconst (q := 7) C dX9_bring_6 rfl ?_
  refine r_iald (q := 8) C (1) dX9_bring_7 rfl (by assumption) (by omega) (by omega) (by omega) (by decide) ?_
  refine r_iconst (q := 9) C dX9_bring_8 rfl ?_
  refine r_isub (q := 10) C dX9_bring_9 rfl ?_
  refine r_callSb (q := 13) C (c_X9_in hz (by omega) (by omega)) m_X9_108 dX9_bring_10 rfl rfl (by decide) (by decide) (Nat.le_of_ble_eq_true rfl) (fun br10 => ?_) (fun br10 => ?_)
  · refine r_ifne_t (q := 18) C (by decide) (by omega) dX9_bring_13 (by decide) ?_
    obtain ⟨lN, rfl⟩ : ∃ lN : Nat, z = (lN : Int) := ⟨z.toNat, by omega⟩
    have hlN : lN < nLn (σ (mC + 1)) := by omega
    have hlo := hI.2.2.2.2.2.2.1 lN hlN
    have hs := fBring.eq_1 (σ (mC + 1)) (σ mC 5) (lN : Int) v w
    rw [if_pos br10] at hs
    simp only [Int.toNat_natCast] at hs
    refine r_il2 (q := 19) C dX9_bring_18 rfl ?_
    refine r_iconst (q := 20) C dX9_bring_19 rfl ?_
    refine r_bipush (q := 22) C dX9_bring_20 (by decide) rfl ?_
    refine r_callSb (q := 25) C (c_X9_in hv (by omega) (by omega)) m_X9_108 dX9_bring_22 rfl rfl (by decide) (by decide) (Nat.le_of_ble_eq_true rfl) (fun br22 => ?_) (fun br22 => ?_)
    · refine r_ifeq_f (q := 44) (q2 := 28) C (by decide) (by omega) dX9_bring_25 (by decide) rfl ?_
      refine r_il3 (q := 29) C dX9_bring_28 rfl ?_
      refine r_iconst (q := 30) C dX9_bring_29 rfl ?_
      refine r_bipush (q := 32) C dX9_bring_30 (by decide) rfl ?_
      refine r_callSb (q := 35) C (c_X9_in hw (by omega) (by omega)) m_X9_108 dX9_bring_32 rfl rfl (by decide) (by decide) (Nat.le_of_ble_eq_true rfl) (fun br32 => ?_) (fun br32 => ?_)
      · refine r_ifeq_f (q := 44) (q2 := 38) C (by decide) (by omega) dX9_bring_35 (by decide) rfl ?_
        refine r_il2 (q := 39) C dX9_bring_38 rfl ?_
        refine r_il3 (q := 40) C dX9_bring_39 rfl ?_
        refine r_iadd (q := 41) C dX9_bring_40 rfl ?_
        refine r_ifne (q := 47) (q2 := 44) C (by omega) dX9_bring_41 (by decide) rfl (fun br41 => ?_) (fun br41 => ?_)
        · rw [if_pos ⟨br22, br32, br41⟩] at hs
          refine r_il2 (q := 48) C dX9_bring_47 rfl ?_
          refine r_il3 (q := 49) C dX9_bring_48 rfl ?_
          refine r_iadd (q := 50) C dX9_bring_49 rfl ?_
          refine r_al0 (q := 51) C dX9_bring_50 rfl ?_
          refine r_getR (q := 54) C f_X9_9 dX9_bring_51 rfl rfl (by assumption) (by assumption) (by omega) ?_
          refine r_il1 (q := 55) C dX9_bring_54 rfl ?_
          refine r_iconst (q := 56) C dX9_bring_55 rfl ?_
          refine r_callS1 (q := 59) C (c_X9_loanAt) m_X9_192 dX9_bring_56 rfl rfl (by decide) (by decide) (Nat.le_of_ble_eq_true rfl) ?_
          refine r_iald (q := 60) C ((21 + 8 * lN)) dX9_bring_59 rfl (by assumption) (by omega) (by omega) (by omega) (by decide) ?_
          refine r_icle (q := 69) (q2 := 63) C (by omega) (by omega) dX9_bring_60 (by decide) rfl (fun br60 => ?_) (fun br60 => ?_)
          · rw [if_neg (by omega)] at hs
            obtain ⟨eN, hen⟩ : ∃ eN : Nat, σ (mC + 1) (18 + 8 * lN) = (eN : Int) := ⟨(σ (mC + 1) (18 + 8 * lN)).toNat, by omega⟩
            obtain ⟨iN, hin⟩ : ∃ iN : Nat, σ (mC + 1) (19 + 8 * lN) = (iN : Int) := ⟨(σ (mC + 1) (19 + 8 * lN)).toNat, by omega⟩
            rw [hen, hin, Int.toNat_natCast, Int.toNat_natCast] at hs
            have heN : eN < nEd (σ (mC + 1)) := by omega
            have hIE := oI_b hI heN
            have hl20 : lN < 20 := by omega
            refine r_al0 (q := 70) C dX9_bring_69 rfl ?_
            refine r_callVv (q := 73) C (c_X9_keeps hM hH h7) m_X9_129 (by assumption) (by omega) dX9_bring_70 rfl rfl (by decide) (by decide) (Nat.le_of_ble_eq_true rfl) (fun σ2 hσ2 => ?_)
            have e1 := hσ2.2.1 (mC + 1) (by omega) (by omega)
            refine r_iconst (q := 74) C dX9_bring_73 rfl ?_
            refine r_al0 (q := 75) C dX9_bring_74 rfl ?_
            refine r_getR (q := 78) C f_X9_9 dX9_bring_75 rfl rfl (by assumption) (by assumption) (by omega) ?_
            refine r_iconst (q := 79) C dX9_bring_78 rfl ?_
            refine r_iald (q := 80) C (2) dX9_bring_79 rfl (by assumption) (by omega) (by omega) (by omega) (by decide) ?_
            rw [e1]
            refine r_al0 (q := 81) C dX9_bring_80 rfl ?_
            refine r_getR (q := 84) C f_X9_9 dX9_bring_81 rfl rfl (by assumption) (by assumption) (by omega) ?_
            refine r_il1 (q := 85) C dX9_bring_84 rfl ?_
            refine r_iconst (q := 86) C dX9_bring_85 rfl ?_
            refine r_callS1 (q := 89) C (c_X9_loanAt) m_X9_192 dX9_bring_86 rfl rfl (by decide) (by decide) (Nat.le_of_ble_eq_true rfl) ?_
            refine r_iald (q := 90) C ((22 + 8 * lN)) dX9_bring_89 rfl (by assumption) (by omega) (by omega) (by omega) (by decide) ?_
            rw [e1]
            refine r_isub (q := 91) C dX9_bring_90 rfl ?_
            refine r_max (q := 94) (z := (if ((σ (mC + 1)) 2 - (σ (mC + 1)) (22 + 8 * lN)) ≤ 0 then 0 else ((σ (mC + 1)) 2 - (σ (mC + 1)) (22 + 8 * lN)))) C (by split <;> split <;> omega) (by omega) (by omega) w_X9_208 dX9_bring_91 rfl (by decide) (Nat.le_of_ble_eq_true rfl) (by decide) ?_
            refine r_is4 (q := 96) C dX9_bring_94 rfl (by decide) ?_
            refine r_il2 (q := 97) C dX9_bring_96 rfl ?_
            refine r_il3 (q := 98) C dX9_bring_97 rfl ?_
            refine r_iadd (q := 99) C dX9_bring_98 rfl ?_
            refine r_bipush (q := 101) C dX9_bring_99 (by decide) rfl ?_
            refine r_il4 (q := 103) C dX9_bring_101 rfl ?_
            have hlate : 0 ≤ (if ((σ (mC + 1)) 2 - (σ (mC + 1)) (22 + 8 * lN)) ≤ 0 then 0 else ((σ (mC + 1)) 2 - (σ (mC + 1)) (22 + 8 * lN))) ∧ (if ((σ (mC + 1)) 2 - (σ (mC + 1)) (22 + 8 * lN)) ≤ 0 then 0 else ((σ (mC + 1)) 2 - (σ (mC + 1)) (22 + 8 * lN))) ≤ 1000000 := by split <;> omega
            refine r_min (q := 106) (z := (if 20 ≤ (if ((σ (mC + 1)) 2 - (σ (mC + 1)) (22 + 8 * lN)) ≤ 0 then 0 else ((σ (mC + 1)) 2 - (σ (mC + 1)) (22 + 8 * lN))) then 20 else (if ((σ (mC + 1)) 2 - (σ (mC + 1)) (22 + 8 * lN)) ≤ 0 then 0 else ((σ (mC + 1)) 2 - (σ (mC + 1)) (22 + 8 * lN))))) C (by split <;> split <;> omega) (by omega) (by omega) w_X9_213 dX9_bring_103 rfl (by decide) (Nat.le_of_ble_eq_true rfl) (by decide) ?_
            refine r_imul (q := 107) C dX9_bring_106 rfl ?_
            refine r_bipush (q := 109) C dX9_bring_107 (by decide) rfl ?_
            refine r_il3 (q := 110) C dX9_bring_109 rfl ?_
            refine r_imul (q := 111) C dX9_bring_110 rfl ?_
            refine r_iadd (q := 112) C dX9_bring_111 rfl ?_
            rw [show (v + w) * (if 20 ≤ (if ((σ (mC + 1)) 2 - (σ (mC + 1)) (22 + 8 * lN)) ≤ 0 then 0 else ((σ (mC + 1)) 2 - (σ (mC + 1)) (22 + 8 * lN))) then 20 else (if ((σ (mC + 1)) 2 - (σ (mC + 1)) (22 + 8 * lN)) ≤ 0 then 0 else ((σ (mC + 1)) 2 - (σ (mC + 1)) (22 + 8 * lN)))) + 50 * w = (feeF ((σ (mC + 1)) 2) ((σ (mC + 1)) (22 + 8 * lN)) v w) by rw [Int.mul_comm 50 w]; rfl]
            refine r_is5 (q := 114) C dX9_bring_112 rfl (by decide) ?_
            refine r_al0 (q := 115) C dX9_bring_114 rfl ?_
            refine r_getR (q := 118) C f_X9_9 dX9_bring_115 rfl rfl (by assumption) (by assumption) (by omega) ?_
            refine r_il1 (q := 119) C dX9_bring_118 rfl ?_
            refine r_iconst (q := 120) C dX9_bring_119 rfl ?_
            refine r_callS1 (q := 123) C (c_X9_loanAt) m_X9_192 dX9_bring_120 rfl rfl (by decide) (by decide) (Nat.le_of_ble_eq_true rfl) ?_
            refine r_iald (q := 124) C ((18 + 8 * lN)) dX9_bring_123 rfl (by assumption) (by omega) (by omega) (by omega) (by decide) ?_
            rw [e1, hen]
            refine r_iconst (q := 125) C dX9_bring_124 rfl ?_
            refine r_iconst (q := 126) C dX9_bring_125 rfl ?_
            refine r_al0 (q := 127) C dX9_bring_126 rfl ?_
            refine r_getR (q := 130) C f_X9_9 dX9_bring_127 rfl rfl (by assumption) (by assumption) (by omega) ?_
            refine r_il1 (q := 131) C dX9_bring_130 rfl ?_
            refine r_iconst (q := 132) C dX9_bring_131 rfl ?_
            refine r_callS1 (q := 135) C (c_X9_loanAt) m_X9_192 dX9_bring_132 rfl rfl (by decide) (by decide) (Nat.le_of_ble_eq_true rfl) ?_
            refine r_iald (q := 136) C ((19 + 8 * lN)) dX9_bring_135 rfl (by assumption) (by omega) (by omega) (by omega) (by decide) ?_
            rw [e1, hin]
            refine r_imul (q := 137) C dX9_bring_136 rfl ?_
            refine r_iadd (q := 138) C dX9_bring_137 rfl ?_
            refine r_callS1 (q := 141) C (c_X9_at) m_X9_105 dX9_bring_138 rfl rfl (by decide) (by decide) (Nat.le_of_ble_eq_true rfl) ?_
            refine r_is6 (q := 143) C dX9_bring_141 rfl (by decide) ?_
            refine r_al0 (q := 144) C dX9_bring_143 rfl ?_
            refine r_getR (q := 147) C f_X9_9 dX9_bring_144 rfl rfl (by assumption) (by assumption) (by omega) ?_
            refine r_il6 (q := 149) C dX9_bring_147 rfl ?_
            refine r_iconst (q := 150) C dX9_bring_149 rfl ?_
            refine r_iadd (q := 151) C dX9_bring_150 rfl ?_
            refine r_dup2 (q := 152) C dX9_bring_151 rfl ?_
            refine r_iald (q := 153) C ((181 + 813 * eN + 3 * iN)) dX9_bring_152 rfl (by assumption) (by omega) (by omega) (by omega) (by decide) ?_
            rw [e1]
            refine r_il2 (q := 154) C dX9_bring_153 rfl ?_
            refine r_il3 (q := 155) C dX9_bring_154 rfl ?_
            refine r_iadd (q := 156) C dX9_bring_155 rfl ?_
            refine r_isub (q := 157) C dX9_bring_156 rfl ?_
            refine r_iast (q := 158) C ((181 + 813 * eN + 3 * iN)) dX9_bring_157 rfl (by assumption) (by omega) (by omega) (by omega) (by decide) ?_
            refine r_al0 (q := 159) C dX9_bring_158 rfl ?_
            refine r_getR (q := 162) C f_X9_9 dX9_bring_159 rfl rfl (by assumption) (by assumption) (by omega) ?_
            refine r_il6 (q := 164) C dX9_bring_162 rfl ?_
            refine r_iconst (q := 165) C dX9_bring_164 rfl ?_
            refine r_iadd (q := 166) C dX9_bring_165 rfl ?_
            refine r_dup2 (q := 167) C dX9_bring_166 rfl ?_
            refine r_iald (q := 168) C ((182 + 813 * eN + 3 * iN)) dX9_bring_167 rfl (by assumption) (by omega) (by omega) (by omega) (by decide) ?_
            rw [o_up_nj (Or.inr (by omega)), e1]
            refine r_il3 (q := 169) C dX9_bring_168 rfl ?_
            refine r_iadd (q := 170) C dX9_bring_169 rfl ?_
            refine r_iast (q := 171) C ((182 + 813 * eN + 3 * iN)) dX9_bring_170 rfl (by assumption) (by omega) (by omega) (by omega) (by decide) ?_
            refine r_al0 (q := 172) C dX9_bring_171 rfl ?_
            refine r_getR (q := 175) C f_X9_9 dX9_bring_172 rfl rfl (by assumption) (by assumption) (by omega) ?_
            refine r_il1 (q := 176) C dX9_bring_175 rfl ?_
            refine r_iconst (q := 177) C dX9_bring_176 rfl ?_
            refine r_callS1 (q := 180) C (c_X9_loanAt) m_X9_192 dX9_bring_177 rfl rfl (by decide) (by decide) (Nat.le_of_ble_eq_true rfl) ?_
            refine r_dup2 (q := 181) C dX9_bring_180 rfl ?_
            refine r_iald (q := 182) C ((21 + 8 * lN)) dX9_bring_181 rfl (by assumption) (by omega) (by omega) (by omega) (by decide) ?_
            rw [o_up_nj (Or.inr (by omega)), o_up_nj (Or.inr (by omega)), e1]
            refine r_il2 (q := 183) C dX9_bring_182 rfl ?_
            refine r_il3 (q := 184) C dX9_bring_183 rfl ?_
            refine r_iadd (q := 185) C dX9_bring_184 rfl ?_
            refine r_isub (q := 186) C dX9_bring_185 rfl ?_
            refine r_iast (q := 187) C ((21 + 8 * lN)) dX9_bring_186 rfl (by assumption) (by omega) (by omega) (by omega) (by decide) ?_
            refine r_al0 (q := 188) C dX9_bring_187 rfl ?_
            refine r_getR (q := 191) C f_X9_9 dX9_bring_188 rfl rfl (by assumption) (by assumption) (by omega) ?_
            refine r_il1 (q := 192) C dX9_bring_191 rfl ?_
            refine r_bipush (q := 194) C dX9_bring_192 (by decide) rfl ?_
            refine r_callS1 (q := 197) C (c_X9_loanAt) m_X9_192 dX9_bring_194 rfl rfl (by decide) (by decide) (Nat.le_of_ble_eq_true rfl) ?_
            refine r_dup2 (q := 198) C dX9_bring_197 rfl ?_
            refine r_iald (q := 199) C ((23 + 8 * lN)) dX9_bring_198 rfl (by assumption) (by omega) (by omega) (by omega) (by decide) ?_
            rw [o_up_nj (Or.inr (by omega)), o_up_nj (Or.inr (by omega)), o_up_nj (Or.inr (by omega)), e1]
            refine r_il5 (q := 201) C dX9_bring_199 rfl ?_
            refine r_iadd (q := 202) C dX9_bring_201 rfl ?_
            refine r_iast (q := 203) C ((23 + 8 * lN)) dX9_bring_202 rfl (by assumption) (by omega) (by omega) (by omega) (by decide) ?_
            refine r_al0 (q := 204) C dX9_bring_203 rfl ?_
            refine r_getR (q := 207) C f_X9_9 dX9_bring_204 rfl rfl (by assumption) (by assumption) (by omega) ?_
            refine r_il1 (q := 208) C dX9_bring_207 rfl ?_
            refine r_bipush (q := 210) C dX9_bring_208 (by decide) rfl ?_
            refine r_callS1 (q := 213) C (c_X9_loanAt) m_X9_192 dX9_bring_210 rfl rfl (by decide) (by decide) (Nat.le_of_ble_eq_true rfl) ?_
            refine r_dup2 (q := 214) C dX9_bring_213 rfl ?_
            refine r_iald (q := 215) C ((24 + 8 * lN)) dX9_bring_214 rfl (by assumption) (by omega) (by omega) (by omega) (by decide) ?_
            rw [o_up_nj (Or.inr (by omega)), o_up_nj (Or.inr (by omega)), o_up_nj (Or.inr (by omega)), o_up_nj (Or.inr (by omega)), e1]
            refine r_il3 (q := 216) C dX9_bring_215 rfl ?_
            refine r_iadd (q := 217) C dX9_bring_216 rfl ?_
            refine r_iast (q := 218) C ((24 + 8 * lN)) dX9_bring_217 rfl (by assumption) (by omega) (by omega) (by omega) (by decide) ?_
            refine r_il5 (q := 220) C dX9_bring_218 rfl ?_
            exact r_iret C hr dX9_bring_220 (by decide) (by decide) ⟨_, rfl, rfl, by rw [hs], by rw [hs, settle_y (Or.inl (feeF_in (by omega) (by omega)).1)]; exact oMc_of hσ2 (fun x hx => by rw [o_up_ne hx, o_up_ne hx, o_up_ne hx, o_up_ne hx, o_up_ne hx]) (by rw [o_upF, o_upF, o_upF, o_upF, o_upF, e1]; exact brgA_e hl20)⟩
          · refine r_al0 (q := 64) C dX9_bring_63 rfl ?_
            refine r_iconst (q := 65) C dX9_bring_64 rfl ?_
            refine r_callVs (q := 68) C (c_X9_refuses hM) m_X9_142 (by assumption) (by omega) dX9_bring_65 rfl rfl (by decide) (by decide) (Nat.le_of_ble_eq_true rfl) (fun z2 σ2 hσ2 => ?_)
            refine r_iret C hr dX9_bring_68 (by decide) (by decide) ?_
            obtain ⟨rfl, rfl⟩ := hσ2
            exact ⟨_, rfl, rfl, by rw [hs, if_pos (by omega)], by rw [hs, if_pos (by omega), settle_n (by simp)]; exact oMc_re hH⟩
        · refine r_bipush (q := 46) C dX9_bring_44 (by decide) rfl ?_
          exact r_iret C hr dX9_bring_46 (by decide) (by decide) ⟨_, rfl, rfl, by rw [hs, if_neg (fun hc => hc.2.2 (by omega))], by rw [hs, if_neg (fun hc => hc.2.2 (by omega))]; rw [settle_n (by simp)]; exact oMc_no hH⟩
      · refine r_ifeq_t (q := 44) C (by decide) (by omega) dX9_bring_35 (by decide) ?_
        refine r_bipush (q := 46) C dX9_bring_44 (by decide) rfl ?_
        exact r_iret C hr dX9_bring_46 (by decide) (by decide) ⟨_, rfl, rfl, by rw [hs, if_neg (fun hc => br32 hc.2.1)], by rw [hs, if_neg (fun hc => br32 hc.2.1)]; rw [settle_n (by simp)]; exact oMc_no hH⟩
    · refine r_ifeq_t (q := 44) C (by decide) (by omega) dX9_bring_25 (by decide) ?_
      refine r_bipush (q := 46) C dX9_bring_44 (by decide) rfl ?_
      exact r_iret C hr dX9_bring_46 (by decide) (by decide) ⟨_, rfl, rfl, by rw [hs, if_neg (fun hc => br22 hc.1)], by rw [hs, if_neg (fun hc => br22 hc.1)]; rw [settle_n (by simp)]; exact oMc_no hH⟩
  · refine r_ifne_f (q := 18) (q2 := 16) C (by decide) (by omega) dX9_bring_13 (by decide) rfl ?_
    refine r_iconst (q := 17) C dX9_bring_16 rfl ?_
    exact r_iret C hr dX9_bring_17 (by decide) (by decide) ⟨_, rfl, rfl, by rw [fBring, if_neg br10], by rw [fBring, if_neg br10]; rw [settle_n (by simp)]; exact oMc_no hH⟩
set_option maxRecDepth 20000 in
set_option maxHeartbeats 8000000 in
theorem c_X9_lendAll {T : oT} {σ : oM} {mC : Nat} (hM : oMm T mC) {Bd : Int} (hI : oI Bd (σ (mC + 1))) (hBd : Bd ≤ 99990000) {Lh : List (Nat → Int)} (hH : oMH σ mC Lh) (h7 : σ mC 7 = 0) {z v w : Int} (hz : o_r z) (hv : o_r v) (hw : o_r w) : MS yX9_lendAll cX9_lendAll 8 (some FieldType.int) 3 6 48 66 [og mC, oi z, oi v, oi w] T σ (oPa (fun zx T2 σ2 => zx = (fLendAll (σ (mC + 1)) Lh (σ mC 5) z v w).1 ∧ oMe T T2 σ σ2 mC (fLendAll (σ (mC + 1)) Lh (σ mC 5) z v w).2.1 (fLendAll (σ (mC + 1)) Lh (σ mC 5) z v w).2.2.1 (fLendAll (σ (mC + 1)) Lh (σ mC 5) z v w).2.2.2)) := by
  have hMc := hM
  obtain ⟨hM0, hMr0, hMr1, hMr2, hMr3, hMr8, hMr9, hMr10, hMr11, hMr13, hMr14, hMr15, hMr16, hMr17, hMr18, hMr19, hMr20, hMk1, hMk2, hMk3, hMk4, hMk5, hMk6, hMk7, hMk8, hMk9, hMk10, hMk11, hMk12, hMk13, hMk14, hMk15, hMk16, hMT⟩ := hMc
  have hI0 := hI.2.1
  have hI1 := hI.2.2.1
  have hI2 := hI.2.2.2.1
  have hIn := oI_n hI
  have hIB := hI.1
  refine o_met (by decide +kernel) (Nat.le_of_ble_eq_true rfl) (fun p l ee s m args below meth c G b C hr hn => ?_)
  have C : oCx p s m args meth c G b RX9 cX9_lendAll 8 := C
  show oW p l ee ({ frames := 3, cells := 6, slots := 48, locals := 66 } : Room) s m args below meth c G b 8 0 0 (MQ below (o_Qc G b (oPa (fun zx T2 σ2 => zx = (fLendAll (σ (mC + 1)) Lh (σ mC 5) z v w).1 ∧ oMe T T2 σ σ2 mC (fLendAll (σ (mC + 1)) Lh (σ mC 5) z v w).2.1 (fLendAll (σ (mC + 1)) Lh (σ mC 5) z v w).2.2.1 (fLendAll (σ (mC + 1)) Lh (σ mC 5) z v w).2.2.2))) args s 6 48 (fun q => b ≤ q)) T σ 0 [some (og mC), some (oi z), some (oi v), some (oi w), none, none, none, none] []
  refine r_il1 (q := 1) C dX9_lendAll_0 rfl ?_
  refine r_iconst (q := 2) C dX9_lendAll_1 rfl ?_
  refine r_iconst (q := 3) C dX9_lendAll_2 rfl ?_
  refine r_callSb (q := 6) C (c_X9_in hz (by omega) (by omega)) m_X9_108 dX9_lendAll_3 rfl rfl (by decide) (by decide) (Nat.le_of_ble_eq_true rfl) (fun br3 => ?_) (fun br3 => ?_)
  · refine r_ifeq_f (q := 17) (q2 := 9) C (by decide) (by omega) dX9_lendAll_6 (by decide) rfl ?_
    refine r_al0 (q := 10) C dX9_lendAll_9 rfl ?_
    refine r_il2 (q := 11) C dX9_lendAll_10 rfl ?_
    refine r_callVb (q := 14) C (c_X9_isEdition hM hI (by omega)) m_X9_112 (by assumption) (by omega) dX9_lendAll_11 rfl rfl (by decide) (by decide) (Nat.le_of_ble_eq_true rfl) (fun br11 => ?_) (fun br11 => ?_)
    · refine r_ifne_t (q := 19) C (by decide) (by omega) dX9_lendAll_14 (by decide) ?_
      obtain ⟨eN, rfl, heN, heN6⟩ := isEd_n hI br11
      have hIE := oI_b hI heN
      have hs := fLendAll.eq_1 (σ (mC + 1)) Lh (σ mC 5) z (eN : Int) w
      rw [if_pos ⟨br3, br11⟩] at hs
      simp only [Int.toNat_natCast] at hs
      refine r_il3 (q := 20) C dX9_lendAll_19 rfl ?_
      refine r_iconst (q := 21) C dX9_lendAll_20 rfl ?_
      refine r_sipush (q := 24) C dX9_lendAll_21 (by decide) rfl ?_
      refine r_callSb (q := 27) C (c_X9_in hw (by omega) (by omega)) m_X9_108 dX9_lendAll_24 rfl rfl (by decide) (by decide) (Nat.le_of_ble_eq_true rfl) (fun br24 => ?_) (fun br24 => ?_)
      · refine r_ifne_t (q := 33) C (by decide) (by omega) dX9_lendAll_27 (by decide) ?_
        rw [if_pos br24] at hs
        refine r_iconst (q := 34) C dX9_lendAll_33 rfl ?_
        refine r_is4 (q := 36) C dX9_lendAll_34 rfl (by decide) ?_
        refine r_iconst (q := 37) C dX9_lendAll_36 rfl ?_
        refine r_is5 (q := 39) C dX9_lendAll_37 rfl (by decide) ?_
        refine r_iconst (q := 40) C dX9_lendAll_39 rfl ?_
        refine r_is6 (q := 42) C dX9_lendAll_40 rfl (by decide) ?_
        have lp1 : ∀ (n : Nat) (jx : Nat) (ew : Int), 6 - jx < n → (jx ≤ 6) → ((ew = 1 ∧ ∀ ix, ix < jx → deskF (fun j => (σ (mC + 1)) (11 + j)) ix ≤ inF (σ (mC + 1)) eN ix) ∨ (ew = 0 ∧ ¬ (∀ ix, ix < jx → deskF (fun j => (σ (mC + 1)) (11 + j)) ix ≤ inF (σ (mC + 1)) eN ix))) → oW p l ee ({ frames := 3, cells := 6, slots := 48, locals := 66 } : Room) s m args below meth c G b 8 0 0 (MQ below (o_Qc G b (oPa (fun zx T2 σ2 => zx = (fLendAll (σ (mC + 1)) Lh (σ mC 5) z (eN : Int) w).1 ∧ oMe T T2 σ σ2 mC (fLendAll (σ (mC + 1)) Lh (σ mC 5) z (eN : Int) w).2.1 (fLendAll (σ (mC + 1)) Lh (σ mC 5) z (eN : Int) w).2.2.1 (fLendAll (σ (mC + 1)) Lh (σ mC 5) z (eN : Int) w).2.2.2))) args s 6 48 (fun q => b ≤ q)) T σ 42 [some (og mC), some (oi z), some (oi ((eN : Nat) : Int)), some (oi w), some (oi (((cntP (fun j => (σ (mC + 1)) (11 + j)) jx : Nat) : Int))), some (oi ew), some (oi ((jx : Nat) : Int)), none] [] := by
          intro n
          induction n with
          | zero =>
            intro jx ew hms
            exact absurd hms (Nat.not_lt_zero _)
          | succ n ih =>
            intro jx ew hms h1 h2
            refine r_il6 (q := 44) C dX9_lendAll_42 rfl ?_
            refine r_bipush (q := 46) C dX9_lendAll_44 (by decide) rfl ?_
            refine r_icge (q := 104) (q2 := 49) C (by omega) (by omega) dX9_lendAll_46 (by decide) rfl (fun br46 => ?_) (fun br46 => ?_)
            · have hj6 : jx = 6 := by omega
              subst hj6
              have hnp : nPl (σ (mC + 1)) = cntP (fun j => (σ (mC + 1)) (11 + j)) 6 := rfl
              rw [← hnp]
              have hnp6 := cntP_le (P := (fun j => (σ (mC + 1)) (11 + j))) (n := 6)
              refine r_il4 (q := 106) C dX9_lendAll_104 rfl ?_
              refine r_ifne (q := 116) (q2 := 109) C (by omega) dX9_lendAll_106 (by decide) rfl (fun br106 => ?_) (fun br106 => ?_)
              · rw [if_neg (by omega)] at hs
                refine r_il5 (q := 118) C dX9_lendAll_116 rfl ?_
                refine r_ifne (q := 127) (q2 := 121) C (by rcases h2 with ⟨hq, -⟩ | ⟨hq, -⟩ <;> omega) dX9_lendAll_118 (by decide) rfl (fun br118 => ?_) (fun br118 => ?_)
                · have hye := h2.elim (fun q => q) (fun q => absurd q.1 br118)
                  rw [if_pos hye.2] at hs
                  obtain ⟨rfl, -⟩ := hye
                  refine r_al0 (q := 128) C dX9_lendAll_127 rfl ?_
                  refine r_il1 (q := 129) C dX9_lendAll_128 rfl ?_
                  refine r_callVb (q := 132) C (c_X9_owes hM hI hz) m_X9_198 (by assumption) (by omega) dX9_lendAll_129 rfl rfl (by decide) (by decide) (Nat.le_of_ble_eq_true rfl) (fun br129 => ?_) (fun br129 => ?_)
                  · refine r_ifeq_f (q := 141) (q2 := 135) C (by decide) (by omega) dX9_lendAll_132 (by decide) rfl ?_
                    refine r_al0 (q := 136) C dX9_lendAll_135 rfl ?_
                    refine r_iconst (q := 137) C dX9_lendAll_136 rfl ?_
                    refine r_callVs (q := 140) C (c_X9_refuses hM) m_X9_142 (by assumption) (by omega) dX9_lendAll_137 rfl rfl (by decide) (by decide) (Nat.le_of_ble_eq_true rfl) (fun z2 σ2 hσ2 => ?_)
                    refine r_iret C hr dX9_lendAll_140 (by decide) (by decide) ?_
                    obtain ⟨rfl, rfl⟩ := hσ2
                    exact ⟨_, rfl, by rw [hs, if_pos br129], by rw [hs, if_pos br129]; exact oMe_of (oMc_re hH)⟩
                  · refine r_ifeq_t (q := 141) C (by decide) (by omega) dX9_lendAll_132 (by decide) ?_
                    rw [if_neg br129] at hs
                    refine r_al0 (q := 142) C dX9_lendAll_141 rfl ?_
                    refine r_getR (q := 145) C f_X9_9 dX9_lendAll_142 rfl rfl (by assumption) (by assumption) (by omega) ?_
                    refine r_iconst (q := 146) C dX9_lendAll_145 rfl ?_
                    refine r_iald (q := 147) C (1) dX9_lendAll_146 rfl (by assumption) (by omega) (by omega) (by omega) (by decide) ?_
                    refine r_il4 (q := 149) C dX9_lendAll_147 rfl ?_
                    refine r_iadd (q := 150) C dX9_lendAll_149 rfl ?_
                    refine r_bipush (q := 152) C dX9_lendAll_150 (by decide) rfl ?_
                    refine r_icle (q := 161) (q2 := 155) C (by omega) (by omega) dX9_lendAll_152 (by decide) rfl (fun br152 => ?_) (fun br152 => ?_)
                    · rw [if_neg (by omega)] at hs
                      have hM20 : nLn (σ (mC + 1)) + nPl (σ (mC + 1)) ≤ 20 := by omega
                      obtain ⟨nP, hnP⟩ : ∃ nP, nP = nPl (σ (mC + 1)) := ⟨_, rfl⟩
                      rw [← hnP]
                      refine r_al0 (q := 162) C dX9_lendAll_161 rfl ?_
                      refine r_callVv (q := 165) C (c_X9_keeps hM hH (Or.inl h7)) m_X9_129 (by assumption) (by omega) dX9_lendAll_162 rfl rfl (by decide) (by decide) (Nat.le_of_ble_eq_true rfl) (fun σ2 hσ2 => ?_)
                      rw [kept_0 h7] at hσ2
                      have e1 := hσ2.2.1 (mC + 1) (by omega) (by omega)
                      refine r_iconst (q := 166) C dX9_lendAll_165 rfl ?_
                      refine r_is6 (q := 168) C dX9_lendAll_166 rfl (by decide) ?_
                      have lp2 : ∀ (n : Nat) (T3 : oT) (σ3 : oM) (jx : Nat) (w7 : Option oV), 6 - jx < n → (jx ≤ 6) → (oExt T T3) → (σ3 (mC + 1) = (lendNA (σ (mC + 1)) eN z w jx)) → (∀ x, x < T.1 → x ≠ mC + 1 → σ3 x = σ2 x) → oW p l ee ({ frames := 3, cells := 6, slots := 48, locals := 66 } : Room) s m args below meth c G b 8 jx (8 * jx) (MQ below (o_Qc G b (oPa (fun zx T2 σ2 => zx = (fLendAll (σ (mC + 1)) Lh (σ mC 5) z (eN : Int) w).1 ∧ oMe T T2 σ σ2 mC (fLendAll (σ (mC + 1)) Lh (σ mC 5) z (eN : Int) w).2.1 (fLendAll (σ (mC + 1)) Lh (σ mC 5) z (eN : Int) w).2.2.1 (fLendAll (σ (mC + 1)) Lh (σ mC 5) z (eN : Int) w).2.2.2))) args s 6 48 (fun q => b ≤ q)) T3 σ3 168 [some (og mC), some (oi z), some (oi ((eN : Nat) : Int)), some (oi w), some (oi ((nP : Nat) : Int)), some (oi 1), some (oi ((jx : Nat) : Int)), w7] [] := by
                        intro n
                        induction n with
                        | zero =>
                          intro T3 σ3 jx w7 hms
                          exact absurd hms (Nat.not_lt_zero _)
                        | succ n ih =>
                          intro T3 σ3 jx w7 hms h1 h2 h3 h4
                          have hM3 : oMm T3 mC := oMm_ext hM h2
                          have hM3c := hM3
                          obtain ⟨hN0, hNr0, hNr1, hNr2, hNr3, hNr8, hNr9, hNr10, hNr11, hNr13, hNr14, hNr15, hNr16, hNr17, hNr18, hNr19, hNr20, hNk1, hNk2, hNk3, hNk4, hNk5, hNk6, hNk7, hNk8, hNk9, hNk10, hNk11, hNk12, hNk13, hNk14, hNk15, hNk16, hNT⟩ := hM3c
                          obtain ⟨s1x, s2x, s3x, s4x⟩ := lendNA_s (bo := z) (dx := w) hI hBd heN br3 br24 hM20 jx h1
                          refine r_il6 (q := 170) C dX9_lendAll_168 rfl ?_
                          refine r_bipush (q := 172) C dX9_lendAll_170 (by decide) rfl ?_
                          refine r_icge (q := 214) (q2 := 175) C (by omega) (by omega) dX9_lendAll_172 (by decide) rfl (fun br172 => ?_) (fun br172 => ?_)
                          · refine r_il4 (q := 216) C dX9_lendAll_214 rfl ?_
                            have hj6 : jx = 6 := by omega
                            subst hj6
                            exact r_iret C hr dX9_lendAll_216 (by decide) (by decide) ⟨_, rfl, by rw [hs, hnP], by rw [hs]; exact ⟨h2, h3, oMH_fr hσ2.1 (congrFun (h4 mC (by omega) (by omega)) 4) (h4 (mC + 4) (by omega) (by omega)), fun x x1 x2 x3 x4 => by rw [h4 x x1 x3]; exact hσ2.2.1 x x2 x4, fun k k4 k5 => by rw [h4 mC (by omega) (by omega)]; exact hσ2.2.2 k k4, by rw [h4 mC (by omega) (by omega)]; exact hσ2.2.2 5 (by decide)⟩⟩
                          · refine r_al0 (q := 176) C dX9_lendAll_175 rfl ?_
                            refine r_getR (q := 179) C f_X9_9 dX9_lendAll_176 rfl rfl (by assumption) (by assumption) (by omega) ?_
                            refine r_bipush (q := 181) C dX9_lendAll_179 (by decide) rfl ?_
                            refine r_il6 (q := 183) C dX9_lendAll_181 rfl ?_
                            refine r_iadd (q := 184) C dX9_lendAll_183 rfl ?_
                            have hpl := hI.2.2.2.2.2.1 jx (by omega)
                            refine r_iald (q := 185) C ((11 + jx)) dX9_lendAll_184 rfl (by assumption) (by omega) (by omega) (by omega) (by decide) ?_
                            rw [h3, s4x jx (by omega)]
                            refine r_ifne (q := 191) (q2 := 188) C (by omega) dX9_lendAll_185 (by decide) rfl (fun br185 => ?_) (fun br185 => ?_)
                            · refine r_al0 (q := 192) C dX9_lendAll_191 rfl ?_
                              refine r_il1 (q := 193) C dX9_lendAll_192 rfl ?_
                              refine r_il2 (q := 194) C dX9_lendAll_193 rfl ?_
                              refine r_il6 (q := 196) C dX9_lendAll_194 rfl ?_
                              refine r_al0 (q := 197) C dX9_lendAll_196 rfl ?_
                              refine r_il6 (q := 199) C dX9_lendAll_197 rfl ?_
                              refine r_callV1 (q := 202) C (c_X9_needs hM3 (by rw [h3]; exact s1x) (z := (jx : Int)) (by omega)) m_X9_205 (by assumption) (by omega) dX9_lendAll_199 rfl rfl (by decide) ⟨by show jx ≤ 6; omega, by show 8 * jx ≤ 48; omega⟩ (Nat.le_of_ble_eq_true rfl) ?_
                              rw [show fNeeds (σ3 (mC + 1)) (jx : Int) = deskF (fun j => (σ (mC + 1)) (11 + j)) jx by rw [h3]; unfold fNeeds; rw [if_pos (by omega), Int.toNat_natCast]; exact deskF_congr (s4x jx (by omega))]
                              refine r_il3 (q := 203) C dX9_lendAll_202 rfl ?_
                              have ecn : cntP (fun j => (σ (mC + 1)) (11 + j)) (jx + 1) = cntP (fun j => (σ (mC + 1)) (11 + j)) jx + (if 0 < σ (mC + 1) (11 + jx) then 1 else 0) := rfl
                              rw [if_pos (by omega)] at ecn
                              have hcm := cntP_mono (P := (fun j => (σ (mC + 1)) (11 + j))) (jx := jx + 1) (n := 6) (by omega)
                              have hnp : nPl (σ (mC + 1)) = cntP (fun j => (σ (mC + 1)) (11 + j)) 6 := rfl
                              refine r_callV (q := 206) C (c_X9_lends (eN := eN) (iN := jx) (bo := z) (cx := deskF (fun j => (σ (mC + 1)) (11 + j)) jx) (dx := w) (lN := nLn (lendNA (σ (mC + 1)) eN z w jx)) hM3 (by rw [h3]; exact s1x) (by omega) (by omega) (by rw [h3]) (by rw [s3x]; omega)) m_X9_201 (by assumption) (by omega) dX9_lendAll_203 rfl rfl (by decide) ⟨by show jx + 1 ≤ 6; omega, by show 8 * jx + 8 ≤ 48; omega⟩ (Nat.le_of_ble_eq_true rfl) (fun r2 T4 σ4 hσ4 => ?_)
                              obtain ⟨zx, rfl, g1, g2, g3, g4⟩ := hσ4
                              refine r_is7 (q := 208) C dX9_lendAll_206 rfl (by decide) ?_
                              refine r_iinc6 (q := 211) C dX9_lendAll_208 rfl (by decide) ?_
                              refine r_goto (q := 168) C dX9_lendAll_211 (by decide) ?_
                              exact ih T4 σ4 (jx + 1) _ (by omega) (by omega) (oExt_tr h2 g2) (by rw [g3, h3, lendNA, if_pos (by omega)]) (fun x x1 x2 => by rw [g4 x (Nat.lt_of_lt_of_le x1 h2.1) x2]; exact h4 x x1 x2)
                            · refine r_goto (q := 208) C dX9_lendAll_188 (by decide) ?_
                              refine r_iinc6 (q := 211) C dX9_lendAll_208 rfl (by decide) ?_
                              refine r_goto (q := 168) C dX9_lendAll_211 (by decide) ?_
                              refine r_widen (k2 := jx + 1) (n2 := 8 * (jx + 1)) (by omega) (by omega) ?_
                              exact ih T3 σ3 (jx + 1) _ (by omega) (by omega) h2 (by rw [h3, lendNA, if_neg (by omega)]) h4
                      exact lp2 _ T σ2 0 none (Nat.lt_succ_self _) (by omega) oExt_rf e1 (fun _ _ _ => rfl)
                    · refine r_al0 (q := 156) C dX9_lendAll_155 rfl ?_
                      refine r_iconst (q := 157) C dX9_lendAll_156 rfl ?_
                      refine r_callVs (q := 160) C (c_X9_refuses hM) m_X9_142 (by assumption) (by omega) dX9_lendAll_157 rfl rfl (by decide) (by decide) (Nat.le_of_ble_eq_true rfl) (fun z2 σ2 hσ2 => ?_)
                      refine r_iret C hr dX9_lendAll_160 (by decide) (by decide) ?_
                      obtain ⟨rfl, rfl⟩ := hσ2
                      exact ⟨_, rfl, by rw [hs, if_pos (by omega)], by rw [hs, if_pos (by omega)]; exact oMe_of (oMc_re hH)⟩
                · have hne : ¬ (∀ ix, ix < 6 → deskF (fun j => (σ (mC + 1)) (11 + j)) ix ≤ inF (σ (mC + 1)) eN ix) := h2.elim (fun q => absurd q.1 (by omega)) (fun q => q.2)
                  rw [if_neg hne] at hs
                  refine r_al0 (q := 122) C dX9_lendAll_121 rfl ?_
                  refine r_iconst (q := 123) C dX9_lendAll_122 rfl ?_
                  refine r_callVs (q := 126) C (c_X9_refuses hM) m_X9_142 (by assumption) (by omega) dX9_lendAll_123 rfl rfl (by decide) (by decide) (Nat.le_of_ble_eq_true rfl) (fun z2 σ2 hσ2 => ?_)
                  refine r_iret C hr dX9_lendAll_126 (by decide) (by decide) ?_
                  obtain ⟨rfl, rfl⟩ := hσ2
                  exact ⟨_, rfl, by rw [hs], by rw [hs]; exact oMe_of (oMc_re hH)⟩
              · refine r_al0 (q := 110) C dX9_lendAll_109 rfl ?_
                refine r_bipush (q := 112) C dX9_lendAll_110 (by decide) rfl ?_
                refine r_callVs (q := 115) C (c_X9_refuses hM) m_X9_142 (by assumption) (by omega) dX9_lendAll_112 rfl rfl (by decide) (by decide) (Nat.le_of_ble_eq_true rfl) (fun z2 σ2 hσ2 => ?_)
                refine r_iret C hr dX9_lendAll_115 (by decide) (by decide) ?_
                obtain ⟨rfl, rfl⟩ := hσ2
                exact ⟨_, rfl, by rw [hs, if_pos (by omega)], by rw [hs, if_pos (by omega)]; exact oMe_of (oMc_re hH)⟩
            · refine r_il4 (q := 51) C dX9_lendAll_49 rfl ?_
              refine r_al0 (q := 52) C dX9_lendAll_51 rfl ?_
              refine r_getR (q := 55) C f_X9_9 dX9_lendAll_52 rfl rfl (by assumption) (by assumption) (by omega) ?_
              refine r_bipush (q := 57) C dX9_lendAll_55 (by decide) rfl ?_
              refine r_il6 (q := 59) C dX9_lendAll_57 rfl ?_
              refine r_iadd (q := 60) C dX9_lendAll_59 rfl ?_
              refine r_iald (q := 61) C ((11 + jx)) dX9_lendAll_60 rfl (by assumption) (by omega) (by omega) (by omega) (by decide) ?_
              have hpl := hI.2.2.2.2.2.1 jx (by omega)
              refine r_ifle (q := 68) (q2 := 64) C (by omega) dX9_lendAll_61 (by decide) rfl (fun br61 => ?_) (fun br61 => ?_)
              · refine r_iconst (q := 69) C dX9_lendAll_68 rfl ?_
                refine r_iadd (q := 70) C dX9_lendAll_69 rfl ?_
                rw [show (((cntP (fun j => (σ (mC + 1)) (11 + j)) jx : Nat) : Int)) + 0 = (((cntP (fun j => (σ (mC + 1)) (11 + j)) (jx + 1) : Nat) : Int)) by
                  have ecn : cntP (fun j => (σ (mC + 1)) (11 + j)) (jx + 1) = cntP (fun j => (σ (mC + 1)) (11 + j)) jx + (if 0 < σ (mC + 1) (11 + jx) then 1 else 0) := rfl
                  rw [if_neg (by omega)] at ecn
                  omega]
                
                refine r_is4 (q := 72) C dX9_lendAll_70 rfl (by decide) ?_
                refine r_il5 (q := 74) C dX9_lendAll_72 rfl ?_
                refine r_al0 (q := 75) C dX9_lendAll_74 rfl ?_
                refine r_il2 (q := 76) C dX9_lendAll_75 rfl ?_
                refine r_il6 (q := 78) C dX9_lendAll_76 rfl ?_
                refine r_callV1 (q := 81) C (c_X9_inOf (eN := eN) (iN := jx) hM (by omega) (by omega)) m_X9_189 (by assumption) (by omega) dX9_lendAll_78 rfl rfl (by decide) (by decide) (Nat.le_of_ble_eq_true rfl) ?_
                refine r_al0 (q := 82) C dX9_lendAll_81 rfl ?_
                refine r_il6 (q := 84) C dX9_lendAll_82 rfl ?_
                refine r_callV1 (q := 87) C (c_X9_needs hM hI (z := (jx : Int)) (by omega)) m_X9_205 (by assumption) (by omega) dX9_lendAll_84 rfl rfl (by decide) (by decide) (Nat.le_of_ble_eq_true rfl) ?_
                rw [show fNeeds (σ (mC + 1)) (jx : Int) = deskF (fun j => (σ (mC + 1)) (11 + j)) jx by unfold fNeeds; rw [if_pos (by omega), Int.toNat_natCast]]
                have hif : o_r (inF (σ (mC + 1)) eN jx) := by
                  have q := hIE.1.2.2.2.1 jx (by omega)
                  unfold inF
                  omega
                have hdk : o_r (deskF (fun j => (σ (mC + 1)) (11 + j)) jx) := by
                  unfold deskF
                  dsimp only
                  split <;> omega
                refine r_iclt (q := 94) (q2 := 90) C (by omega) (by omega) dX9_lendAll_87 (by decide) rfl (fun br87 => ?_) (fun br87 => ?_)
                · refine r_iconst (q := 95) C dX9_lendAll_94 rfl ?_
                  refine r_iand (q := 96) (z := 0) C (by rcases h2 with ⟨hq, -⟩ | ⟨hq, -⟩ <;> rw [hq] <;> decide) dX9_lendAll_95 rfl ?_
                  refine r_is5 (q := 98) C dX9_lendAll_96 rfl (by decide) ?_
                  refine r_iinc6 (q := 101) C dX9_lendAll_98 rfl (by decide) ?_
                  refine r_goto (q := 42) C dX9_lendAll_101 (by decide) ?_
                  exact ih (jx + 1) 0 (by omega) (by omega) (Or.inr ⟨rfl, fun hc => by have q := hc jx (by omega); omega⟩)
                · refine r_iconst (q := 91) C dX9_lendAll_90 rfl ?_
                  refine r_goto (q := 95) C dX9_lendAll_91 (by decide) ?_
                  refine r_iand (q := 96) (z := ew) C (by rcases h2 with ⟨hq, -⟩ | ⟨hq, -⟩ <;> rw [hq] <;> decide) dX9_lendAll_95 rfl ?_
                  refine r_is5 (q := 98) C dX9_lendAll_96 rfl (by decide) ?_
                  refine r_iinc6 (q := 101) C dX9_lendAll_98 rfl (by decide) ?_
                  refine r_goto (q := 42) C dX9_lendAll_101 (by decide) ?_
                  exact ih (jx + 1) ew (by omega) (by omega) (by rcases h2 with ⟨q1, q2⟩ | ⟨q1, q2⟩; exact Or.inl ⟨q1, fun ix hx => (Nat.lt_or_ge ix jx).elim (q2 ix) (fun q => by rw [show ix = jx by omega]; omega)⟩; exact Or.inr ⟨q1, fun hc => q2 (fun ix hx => hc ix (by omega))⟩)
              · refine r_iconst (q := 65) C dX9_lendAll_64 rfl ?_
                refine r_goto (q := 69) C dX9_lendAll_65 (by decide) ?_
                refine r_iadd (q := 70) C dX9_lendAll_69 rfl ?_
                rw [show (((cntP (fun j => (σ (mC + 1)) (11 + j)) jx : Nat) : Int)) + 1 = (((cntP (fun j => (σ (mC + 1)) (11 + j)) (jx + 1) : Nat) : Int)) by
                  have ecn : cntP (fun j => (σ (mC + 1)) (11 + j)) (jx + 1) = cntP (fun j => (σ (mC + 1)) (11 + j)) jx + (if 0 < σ (mC + 1) (11 + jx) then 1 else 0) := rfl
                  rw [if_pos (by omega)] at ecn
                  omega]
                
                refine r_is4 (q := 72) C dX9_lendAll_70 rfl (by decide) ?_
                refine r_il5 (q := 74) C dX9_lendAll_72 rfl ?_
                refine r_al0 (q := 75) C dX9_lendAll_74 rfl ?_
                refine r_il2 (q := 76) C dX9_lendAll_75 rfl ?_
                refine r_il6 (q := 78) C dX9_lendAll_76 rfl ?_
                refine r_callV1 (q := 81) C (c_X9_inOf (eN := eN) (iN := jx) hM (by omega) (by omega)) m_X9_189 (by assumption) (by omega) dX9_lendAll_78 rfl rfl (by decide) (by decide) (Nat.le_of_ble_eq_true rfl) ?_
                refine r_al0 (q := 82) C dX9_lendAll_81 rfl ?_
                refine r_il6 (q := 84) C dX9_lendAll_82 rfl ?_
                refine r_callV1 (q := 87) C (c_X9_needs hM hI (z := (jx : Int)) (by omega)) m_X9_205 (by assumption) (by omega) dX9_lendAll_84 rfl rfl (by decide) (by decide) (Nat.le_of_ble_eq_true rfl) ?_
                rw [show fNeeds (σ (mC + 1)) (jx : Int) = deskF (fun j => (σ (mC + 1)) (11 + j)) jx by unfold fNeeds; rw [if_pos (by omega), Int.toNat_natCast]]
                have hif : o_r (inF (σ (mC + 1)) eN jx) := by
                  have q := hIE.1.2.2.2.1 jx (by omega)
                  unfold inF
                  omega
                have hdk : o_r (deskF (fun j => (σ (mC + 1)) (11 + j)) jx) := by
                  unfold deskF
                  dsimp only
                  split <;> omega
                refine r_iclt (q := 94) (q2 := 90) C (by omega) (by omega) dX9_lendAll_87 (by decide) rfl (fun br87 => ?_) (fun br87 => ?_)
                · refine r_iconst (q := 95) C dX9_lendAll_94 rfl ?_
                  refine r_iand (q := 96) (z := 0) C (by rcases h2 with ⟨hq, -⟩ | ⟨hq, -⟩ <;> rw [hq] <;> decide) dX9_lendAll_95 rfl ?_
                  refine r_is5 (q := 98) C dX9_lendAll_96 rfl (by decide) ?_
                  refine r_iinc6 (q := 101) C dX9_lendAll_98 rfl (by decide) ?_
                  refine r_goto (q := 42) C dX9_lendAll_101 (by decide) ?_
                  exact ih (jx + 1) 0 (by omega) (by omega) (Or.inr ⟨rfl, fun hc => by have q := hc jx (by omega); omega⟩)
                · refine r_iconst (q := 91) C dX9_lendAll_90 rfl ?_
                  refine r_goto (q := 95) C dX9_lendAll_91 (by decide) ?_
                  refine r_iand (q := 96) (z := ew) C (by rcases h2 with ⟨hq, -⟩ | ⟨hq, -⟩ <;> rw [hq] <;> decide) dX9_lendAll_95 rfl ?_
                  refine r_is5 (q := 98) C dX9_lendAll_96 rfl (by decide) ?_
                  refine r_iinc6 (q := 101) C dX9_lendAll_98 rfl (by decide) ?_
                  refine r_goto (q := 42) C dX9_lendAll_101 (by decide) ?_
                  exact ih (jx + 1) ew (by omega) (by omega) (by rcases h2 with ⟨q1, q2⟩ | ⟨q1, q2⟩; exact Or.inl ⟨q1, fun ix hx => (Nat.lt_or_ge ix jx).elim (q2 ix) (fun q => by rw [show ix = jx by omega]; omega)⟩; exact Or.inr ⟨q1, fun hc => q2 (fun ix hx => hc ix (by omega))⟩)
        exact lp1 _ 0 1 (Nat.lt_succ_self _) (by omega) (Or.inl ⟨rfl, fun ix hx => absurd hx (Nat.not_lt_zero _)⟩)
      · refine r_ifne_f (q := 33) (q2 := 30) C (by decide) (by omega) dX9_lendAll_27 (by decide) rfl ?_
        refine r_bipush (q := 32) C dX9_lendAll_30 (by decide) rfl ?_
        exact r_iret C hr dX9_lendAll_32 (by decide) (by decide) ⟨_, rfl, by rw [hs, if_neg br24], by rw [hs, if_neg br24]; exact oMe_of (oMc_no hH)⟩
    · refine r_ifne_f (q := 19) (q2 := 17) C (by decide) (by omega) dX9_lendAll_14 (by decide) rfl ?_
      refine r_iconst (q := 18) C dX9_lendAll_17 rfl ?_
      exact r_iret C hr dX9_lendAll_18 (by decide) (by decide) ⟨_, rfl, by rw [fLendAll, if_neg (fun hc => br11 hc.2)], by rw [fLendAll, if_neg (fun hc => br11 hc.2)]; exact oMe_of (oMc_no hH)⟩
  · refine r_ifeq_t (q := 17) C (by decide) (by omega) dX9_lendAll_6 (by decide) ?_
    refine r_iconst (q := 18) C dX9_lendAll_17 rfl ?_
    exact r_iret C hr dX9_lendAll_18 (by decide) (by decide) ⟨_, rfl, by rw [fLendAll, if_neg (fun hc => br3 hc.1)], by rw [fLendAll, if_neg (fun hc => br3 hc.1)]; exact oMe_of (oMc_no hH)⟩
