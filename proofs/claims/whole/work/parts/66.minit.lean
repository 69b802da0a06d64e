/-- the reference as its constructor leaves it -/
def oM0 (T T2 : oT) (σ σ2 : oM) (mC : Nat) : Prop := oMm T2 mC ∧ T2.1 = T.1 + 16 ∧ (∀ x, x < T.1 → T2.2.1 x = T.2.1 x ∧ (x ≠ mC → T2.2.2 x = T.2.2 x)) ∧ (∀ x, x < mC → σ2 x = σ x) ∧ (σ2 mC 4 = 0 ∧ σ2 mC 5 = -7 ∧ σ2 mC 6 = 0 ∧ σ2 mC 7 = 0 ∧ σ2 mC 12 = 0 ∧ σ2 mC 21 = 0 ∧ σ2 mC 25 = -7 ∧ σ2 mC 26 = -7) ∧ (∀ c, 1 ≤ c → c ≤ 16 → c ≠ 9 → ∀ i, σ2 (mC + c) i = 0) ∧ ∀ i, i < 4 → σ2 (mC + 9) i = -7
theorem til_s {kx : Nat} {v : Int} : updF (fun j => if j < kx then v else 0) kx v = fun j => if j < kx + 1 then v else 0 := by
  funext j
  by_cases h : j = kx
  · rw [h, updF_at, if_pos (by omega)]
  · rw [updF_ne h]
    by_cases h2 : j < kx
    · rw [if_pos h2, if_pos (by omega)]
    · rw [if_neg h2, if_neg (by omega)]
set_option maxRecDepth 20000 in
set_option maxHeartbeats 8000000 in
theorem c_X9_init {T : oT} {σ : oM} {aC : Nat} (hs : T.2.1 aC = (9, 0)) (hT1 : T.1 = aC + 1) : MS yX9_init cX9_init 2 none 1 16 56875 21 [og aC] T σ (oPc (fun T2 σ2 => oM0 T T2 σ σ2 aC)) := by
  have ha : aC < T.1 := by omega
  refine o_met (by decide +kernel) (Nat.le_of_ble_eq_true rfl) (fun p l ee s m args below meth c G b C hr hn => ?_)
  have C : oCx p s m args meth c G b RX9 cX9_init 2 := C
  show oW p l ee ({ frames := 1, cells := 16, slots := 56875, locals := 21 } : Room) s m args below meth c G b 2 0 0 (MQ below (o_Qc G b (oPc (fun T2 σ2 => oM0 T T2 σ σ2 aC))) args s 16 56875 (fun q => b ≤ q)) T σ 0 [some (og aC), none] []
  refine r_al0 (q := 1) C dX9_init_0 rfl ?_
  refine r_obj (q := 4) C (o_t5 6 rfl rfl) dX9_init_1 rfl (by decide) (Nat.le_of_ble_eq_true rfl) ?_
  have hB0 := oBl_0 (T := T) (σ := σ) (a := aC)
  refine r_al0 (q := 5) C dX9_init_4 rfl ?_
  refine r_sipush (q := 8) C dX9_init_5 (by decide) rfl ?_
  refine r_naI (q := 13) (N := 5055) C dX9_init_8 rfl (by decide) rfl ⟨by decide, by decide⟩ fp_X9_9 dX9_init_10 rfl rfl hn (fun _ => rfl) (fun _ => rfl) hB0 hs ha (by decide) (fun T1 σ1 hB1 => ?_)
  have hs1 := (hB1.2.1 aC ha).1.trans hs
  have ha1 : aC < T1.1 := by
    rw [hB1.1]
    omega
  refine r_al0 (q := 14) C dX9_init_13 rfl ?_
  refine r_sipush (q := 17) C dX9_init_14 (by decide) rfl ?_
  refine r_naI (q := 22) (N := 5055) C dX9_init_17 rfl (by decide) rfl ⟨by decide, by decide⟩ fp_X9_13 dX9_init_19 rfl rfl hn (fun _ => rfl) (fun _ => rfl) hB1 hs ha (by decide) (fun T2 σ2 hB2 => ?_)
  have hs2 := (hB2.2.1 aC ha).1.trans hs
  have ha2 : aC < T2.1 := by
    rw [hB2.1]
    omega
  refine r_al0 (q := 23) C dX9_init_22 rfl ?_
  refine r_sipush (q := 26) C dX9_init_23 (by decide) rfl ?_
  refine r_naI (q := 31) (N := 5055) C dX9_init_26 rfl (by decide) rfl ⟨by decide, by decide⟩ fp_X9_16 dX9_init_28 rfl rfl hn (fun _ => rfl) (fun _ => rfl) hB2 hs ha (by decide) (fun T3 σ3 hB3 => ?_)
  have hs3 := (hB3.2.1 aC ha).1.trans hs
  have ha3 : aC < T3.1 := by
    rw [hB3.1]
    omega
  refine r_al0 (q := 32) C dX9_init_31 rfl ?_
  refine r_ldci (q := 34) (z := 40440) C k_X9_19 dX9_init_32 rfl ?_
  refine r_naI (q := 39) (N := 40440) C dX9_init_34 rfl (by decide) rfl ⟨by decide, by decide⟩ fp_X9_20 dX9_init_36 rfl rfl hn (fun _ => rfl) (fun _ => rfl) hB3 hs ha (by decide) (fun T4 σ4 hB4 => ?_)
  have hs4 := (hB4.2.1 aC ha).1.trans hs
  have ha4 : aC < T4.1 := by
    rw [hB4.1]
    omega
  refine r_al0 (q := 40) C dX9_init_39 rfl ?_
  refine r_iconst (q := 41) C dX9_init_40 rfl ?_
  refine r_putI (q := 44) C fp_X9_23 dX9_init_41 rfl rfl (by assumption) (by omega) ?_
  have hP1 := oBl_put (f := 4) (v := 0) hB4 ha
  refine r_al0 (q := 45) C dX9_init_44 rfl ?_
  refine r_bipush (q := 47) C dX9_init_45 (by decide) rfl ?_
  refine r_putI (q := 50) C fp_X9_27 dX9_init_47 rfl rfl (by assumption) (by omega) ?_
  have hP2 := oBl_put (f := 5) (v := (-7)) hP1 ha
  refine r_al0 (q := 51) C dX9_init_50 rfl ?_
  refine r_iconst (q := 52) C dX9_init_51 rfl ?_
  refine r_putZ (q := 55) C fp_X9_30 dX9_init_52 rfl rfl (by decide) (by assumption) (by omega) ?_
  have hP3 := oBl_put (f := 6) (v := 0) hP2 ha
  refine r_al0 (q := 56) C dX9_init_55 rfl ?_
  refine r_iconst (q := 57) C dX9_init_56 rfl ?_
  refine r_putZ (q := 60) C fp_X9_34 dX9_init_57 rfl rfl (by decide) (by assumption) (by omega) ?_
  have hP4 := oBl_put (f := 7) (v := 0) hP3 ha
  refine r_al0 (q := 61) C dX9_init_60 rfl ?_
  refine r_sipush (q := 64) C dX9_init_61 (by decide) rfl ?_
  refine r_naI (q := 69) (N := 198) C dX9_init_64 rfl (by decide) rfl ⟨by decide, by decide⟩ fp_X9_37 dX9_init_66 rfl rfl hn (fun _ => rfl) (fun _ => rfl) hP4 hs ha (by decide) (fun T5 σ5 hB5 => ?_)
  have hs5 := (hB5.2.1 aC ha).1.trans hs
  have ha5 : aC < T5.1 := by
    rw [hB5.1]
    omega
  refine r_al0 (q := 70) C dX9_init_69 rfl ?_
  refine r_sipush (q := 73) C dX9_init_70 (by decide) rfl ?_
  refine r_naI (q := 78) (N := 198) C dX9_init_73 rfl (by decide) rfl ⟨by decide, by decide⟩ fp_X9_40 dX9_init_75 rfl rfl hn (fun _ => rfl) (fun _ => rfl) hB5 hs ha (by decide) (fun T6 σ6 hB6 => ?_)
  have hs6 := (hB6.2.1 aC ha).1.trans hs
  have ha6 : aC < T6.1 := by
    rw [hB6.1]
    omega
  refine r_al0 (q := 79) C dX9_init_78 rfl ?_
  refine r_sipush (q := 82) C dX9_init_79 (by decide) rfl ?_
  refine r_naI (q := 87) (N := 198) C dX9_init_82 rfl (by decide) rfl ⟨by decide, by decide⟩ fp_X9_43 dX9_init_84 rfl rfl hn (fun _ => rfl) (fun _ => rfl) hB6 hs ha (by decide) (fun T7 σ7 hB7 => ?_)
  have hs7 := (hB7.2.1 aC ha).1.trans hs
  have ha7 : aC < T7.1 := by
    rw [hB7.1]
    omega
  refine r_al0 (q := 88) C dX9_init_87 rfl ?_
  refine r_sipush (q := 91) C dX9_init_88 (by decide) rfl ?_
  refine r_naI (q := 96) (N := 198) C dX9_init_91 rfl (by decide) rfl ⟨by decide, by decide⟩ fp_X9_46 dX9_init_93 rfl rfl hn (fun _ => rfl) (fun _ => rfl) hB7 hs ha (by decide) (fun T8 σ8 hB8 => ?_)
  have hs8 := (hB8.2.1 aC ha).1.trans hs
  have ha8 : aC < T8.1 := by
    rw [hB8.1]
    omega
  refine r_al0 (q := 97) C dX9_init_96 rfl ?_
  refine r_iconst (q := 98) C dX9_init_97 rfl ?_
  refine r_putI (q := 101) C fp_X9_49 dX9_init_98 rfl rfl (by assumption) (by omega) ?_
  have hP5 := oBl_put (f := 12) (v := 0) hB8 ha
  refine r_al0 (q := 102) C dX9_init_101 rfl ?_
  refine r_iconst (q := 103) C dX9_init_102 rfl ?_
  refine r_naI (q := 108) (N := 4) C dX9_init_103 rfl (by decide) rfl ⟨by decide, by decide⟩ fp_X9_52 dX9_init_105 rfl rfl hn (fun _ => rfl) (fun _ => rfl) hP5 hs ha (by decide) (fun T9 σ9 hB9 => ?_)
  have hs9 := (hB9.2.1 aC ha).1.trans hs
  have ha9 : aC < T9.1 := by
    rw [hB9.1]
    omega
  refine r_al0 (q := 109) C dX9_init_108 rfl ?_
  refine r_iconst (q := 110) C dX9_init_109 rfl ?_
  refine r_naI (q := 115) (N := 3) C dX9_init_110 rfl (by decide) rfl ⟨by decide, by decide⟩ fp_X9_55 dX9_init_112 rfl rfl hn (fun _ => rfl) (fun _ => rfl) hB9 hs ha (by decide) (fun T10 σ10 hB10 => ?_)
  have hs10 := (hB10.2.1 aC ha).1.trans hs
  have ha10 : aC < T10.1 := by
    rw [hB10.1]
    omega
  refine r_al0 (q := 116) C dX9_init_115 rfl ?_
  refine r_iconst (q := 117) C dX9_init_116 rfl ?_
  refine r_naI (q := 122) (N := 3) C dX9_init_117 rfl (by decide) rfl ⟨by decide, by decide⟩ fp_X9_58 dX9_init_119 rfl rfl hn (fun _ => rfl) (fun _ => rfl) hB10 hs ha (by decide) (fun T11 σ11 hB11 => ?_)
  have hs11 := (hB11.2.1 aC ha).1.trans hs
  have ha11 : aC < T11.1 := by
    rw [hB11.1]
    omega
  refine r_al0 (q := 123) C dX9_init_122 rfl ?_
  refine r_bipush (q := 125) C dX9_init_123 (by decide) rfl ?_
  refine r_naI (q := 130) (N := 24) C dX9_init_125 rfl (by decide) rfl ⟨by decide, by decide⟩ fp_X9_61 dX9_init_127 rfl rfl hn (fun _ => rfl) (fun _ => rfl) hB11 hs ha (by decide) (fun T12 σ12 hB12 => ?_)
  have hs12 := (hB12.2.1 aC ha).1.trans hs
  have ha12 : aC < T12.1 := by
    rw [hB12.1]
    omega
  refine r_al0 (q := 131) C dX9_init_130 rfl ?_
  refine r_bipush (q := 133) C dX9_init_131 (by decide) rfl ?_
  refine r_naI (q := 138) (N := 24) C dX9_init_133 rfl (by decide) rfl ⟨by decide, by decide⟩ fp_X9_64 dX9_init_135 rfl rfl hn (fun _ => rfl) (fun _ => rfl) hB12 hs ha (by decide) (fun T13 σ13 hB13 => ?_)
  have hs13 := (hB13.2.1 aC ha).1.trans hs
  have ha13 : aC < T13.1 := by
    rw [hB13.1]
    omega
  refine r_al0 (q := 139) C dX9_init_138 rfl ?_
  refine r_bipush (q := 141) C dX9_init_139 (by decide) rfl ?_
  refine r_naI (q := 146) (N := 60) C dX9_init_141 rfl (by decide) rfl ⟨by decide, by decide⟩ fp_X9_67 dX9_init_143 rfl rfl hn (fun _ => rfl) (fun _ => rfl) hB13 hs ha (by decide) (fun T14 σ14 hB14 => ?_)
  have hs14 := (hB14.2.1 aC ha).1.trans hs
  have ha14 : aC < T14.1 := by
    rw [hB14.1]
    omega
  refine r_al0 (q := 147) C dX9_init_146 rfl ?_
  refine r_bipush (q := 149) C dX9_init_147 (by decide) rfl ?_
  refine r_naI (q := 154) (N := 60) C dX9_init_149 rfl (by decide) rfl ⟨by decide, by decide⟩ fp_X9_70 dX9_init_151 rfl rfl hn (fun _ => rfl) (fun _ => rfl) hB14 hs ha (by decide) (fun T15 σ15 hB15 => ?_)
  have hs15 := (hB15.2.1 aC ha).1.trans hs
  have ha15 : aC < T15.1 := by
    rw [hB15.1]
    omega
  refine r_al0 (q := 155) C dX9_init_154 rfl ?_
  refine r_sipush (q := 158) C dX9_init_155 (by decide) rfl ?_
  refine r_naI (q := 163) (N := 300) C dX9_init_158 rfl (by decide) rfl ⟨by decide, by decide⟩ fp_X9_73 dX9_init_160 rfl rfl hn (fun _ => rfl) (fun _ => rfl) hB15 hs ha (by decide) (fun T16 σ16 hB16 => ?_)
  have hs16 := (hB16.2.1 aC ha).1.trans hs
  have ha16 : aC < T16.1 := by
    rw [hB16.1]
    omega
  refine r_al0 (q := 164) C dX9_init_163 rfl ?_
  refine r_iconst (q := 165) C dX9_init_164 rfl ?_
  refine r_putI (q := 168) C fp_X9_76 dX9_init_165 rfl rfl (by assumption) (by omega) ?_
  have hP6 := oBl_put (f := 21) (v := 0) hB16 ha
  refine r_al0 (q := 169) C dX9_init_168 rfl ?_
  refine r_iconst (q := 170) C dX9_init_169 rfl ?_
  refine r_putI (q := 173) C fp_X9_79 dX9_init_170 rfl rfl (by assumption) (by omega) ?_
  have hP7 := oBl_put (f := 22) (v := 0) hP6 ha
  refine r_al0 (q := 174) C dX9_init_173 rfl ?_
  refine r_iconst (q := 175) C dX9_init_174 rfl ?_
  refine r_putI (q := 178) C fp_X9_82 dX9_init_175 rfl rfl (by assumption) (by omega) ?_
  have hP8 := oBl_put (f := 23) (v := 0) hP7 ha
  refine r_al0 (q := 179) C dX9_init_178 rfl ?_
  refine r_iconst (q := 180) C dX9_init_179 rfl ?_
  refine r_putI (q := 183) C fp_X9_85 dX9_init_180 rfl rfl (by assumption) (by omega) ?_
  have hP9 := oBl_put (f := 24) (v := 0) hP8 ha
  refine r_al0 (q := 184) C dX9_init_183 rfl ?_
  refine r_bipush (q := 186) C dX9_init_184 (by decide) rfl ?_
  refine r_putI (q := 189) C fp_X9_88 dX9_init_186 rfl rfl (by assumption) (by omega) ?_
  have hP10 := oBl_put (f := 25) (v := (-7)) hP9 ha
  refine r_al0 (q := 190) C dX9_init_189 rfl ?_
  refine r_bipush (q := 192) C dX9_init_190 (by decide) rfl ?_
  refine r_putI (q := 195) C fp_X9_91 dX9_init_192 rfl rfl (by assumption) (by omega) ?_
  have hP11 := oBl_put (f := 26) (v := (-7)) hP10 ha
  refine r_al0 (q := 196) C dX9_init_195 rfl ?_
  refine r_iconst (q := 197) C dX9_init_196 rfl ?_
  refine r_putZ (q := 200) C fp_X9_94 dX9_init_197 rfl rfl (by decide) (by assumption) (by omega) ?_
  have hP12 := oBl_put (f := 27) (v := 0) hP11 ha
  refine r_iconst (q := 201) C dX9_init_200 rfl ?_
  refine r_is1 (q := 202) C dX9_init_201 rfl (by decide) ?_
  have key : ∀ σM : oM, oBl T T16 (o_up (o_up (o_up (o_up (o_up (o_up (o_up (o_up (o_up (o_up (o_up (o_up σ aC 4 0) aC 5 (-7)) aC 6 0) aC 7 0) aC 12 0) aC 21 0) aC 22 0) aC 23 0) aC 24 0) aC 25 (-7)) aC 26 (-7)) aC 27 0) σM aC [(0, 10, 5055), (1, 10, 5055), (2, 10, 5055), (3, 10, 40440), (8, 10, 198), (9, 10, 198), (10, 10, 198), (11, 10, 198), (13, 10, 4), (14, 10, 3), (15, 10, 3), (16, 10, 24), (17, 10, 24), (18, 10, 60), (19, 10, 60), (20, 10, 300)] → oW p l ee ({ frames := 1, cells := 16, slots := 56875, locals := 21 } : Room) s m args below meth c G b 2 16 56875 (MQ below (o_Qc G b (oPc (fun T2 σ2 => oM0 T T2 σ σ2 aC))) args s 16 56875 (fun q => b ≤ q)) T16 σM 202 [some (og aC), some (oi 0)] [] := by
    intro σM hB
    obtain ⟨b1q, b2q, b3q, b4q⟩ := hB
    have hT16 : T16.1 = T.1 + 16 := b1q
    have rf0 : T16.2.2 aC 0 = some (aC + 1) := by have q := (b3q 0 _ rfl).2.1; rw [hT1] at q; exact q
    have sh0 : T16.2.1 (aC + 1) = (10, 5055) := by have q := (b3q 0 _ rfl).1; rw [hT1] at q; exact q
    have ze0 : ∀ j, σM (aC + 1) j = 0 := by have q := (b3q 0 _ rfl).2.2; rw [hT1] at q; exact q
    have rf1 : T16.2.2 aC 1 = some (aC + 2) := by have q := (b3q 1 _ rfl).2.1; rw [hT1] at q; exact q
    have sh1 : T16.2.1 (aC + 2) = (10, 5055) := by have q := (b3q 1 _ rfl).1; rw [hT1] at q; exact q
    have ze1 : ∀ j, σM (aC + 2) j = 0 := by have q := (b3q 1 _ rfl).2.2; rw [hT1] at q; exact q
    have rf2 : T16.2.2 aC 2 = some (aC + 3) := by have q := (b3q 2 _ rfl).2.1; rw [hT1] at q; exact q
    have sh2 : T16.2.1 (aC + 3) = (10, 5055) := by have q := (b3q 2 _ rfl).1; rw [hT1] at q; exact q
    have ze2 : ∀ j, σM (aC + 3) j = 0 := by have q := (b3q 2 _ rfl).2.2; rw [hT1] at q; exact q
    have rf3 : T16.2.2 aC 3 = some (aC + 4) := by have q := (b3q 3 _ rfl).2.1; rw [hT1] at q; exact q
    have sh3 : T16.2.1 (aC + 4) = (10, 40440) := by have q := (b3q 3 _ rfl).1; rw [hT1] at q; exact q
    have ze3 : ∀ j, σM (aC + 4) j = 0 := by have q := (b3q 3 _ rfl).2.2; rw [hT1] at q; exact q
    have rf4 : T16.2.2 aC 8 = some (aC + 5) := by have q := (b3q 4 _ rfl).2.1; rw [hT1] at q; exact q
    have sh4 : T16.2.1 (aC + 5) = (10, 198) := by have q := (b3q 4 _ rfl).1; rw [hT1] at q; exact q
    have ze4 : ∀ j, σM (aC + 5) j = 0 := by have q := (b3q 4 _ rfl).2.2; rw [hT1] at q; exact q
    have rf5 : T16.2.2 aC 9 = some (aC + 6) := by have q := (b3q 5 _ rfl).2.1; rw [hT1] at q; exact q
    have sh5 : T16.2.1 (aC + 6) = (10, 198) := by have q := (b3q 5 _ rfl).1; rw [hT1] at q; exact q
    have ze5 : ∀ j, σM (aC + 6) j = 0 := by have q := (b3q 5 _ rfl).2.2; rw [hT1] at q; exact q
    have rf6 : T16.2.2 aC 10 = some (aC + 7) := by have q := (b3q 6 _ rfl).2.1; rw [hT1] at q; exact q
    have sh6 : T16.2.1 (aC + 7) = (10, 198) := by have q := (b3q 6 _ rfl).1; rw [hT1] at q; exact q
    have ze6 : ∀ j, σM (aC + 7) j = 0 := by have q := (b3q 6 _ rfl).2.2; rw [hT1] at q; exact q
    have rf7 : T16.2.2 aC 11 = some (aC + 8) := by have q := (b3q 7 _ rfl).2.1; rw [hT1] at q; exact q
    have sh7 : T16.2.1 (aC + 8) = (10, 198) := by have q := (b3q 7 _ rfl).1; rw [hT1] at q; exact q
    have ze7 : ∀ j, σM (aC + 8) j = 0 := by have q := (b3q 7 _ rfl).2.2; rw [hT1] at q; exact q
    have rf8 : T16.2.2 aC 13 = some (aC + 9) := by have q := (b3q 8 _ rfl).2.1; rw [hT1] at q; exact q
    have sh8 : T16.2.1 (aC + 9) = (10, 4) := by have q := (b3q 8 _ rfl).1; rw [hT1] at q; exact q
    have ze8 : ∀ j, σM (aC + 9) j = 0 := by have q := (b3q 8 _ rfl).2.2; rw [hT1] at q; exact q
    have rf9 : T16.2.2 aC 14 = some (aC + 10) := by have q := (b3q 9 _ rfl).2.1; rw [hT1] at q; exact q
    have sh9 : T16.2.1 (aC + 10) = (10, 3) := by have q := (b3q 9 _ rfl).1; rw [hT1] at q; exact q
    have ze9 : ∀ j, σM (aC + 10) j = 0 := by have q := (b3q 9 _ rfl).2.2; rw [hT1] at q; exact q
    have rf10 : T16.2.2 aC 15 = some (aC + 11) := by have q := (b3q 10 _ rfl).2.1; rw [hT1] at q; exact q
    have sh10 : T16.2.1 (aC + 11) = (10, 3) := by have q := (b3q 10 _ rfl).1; rw [hT1] at q; exact q
    have ze10 : ∀ j, σM (aC + 11) j = 0 := by have q := (b3q 10 _ rfl).2.2; rw [hT1] at q; exact q
    have rf11 : T16.2.2 aC 16 = some (aC + 12) := by have q := (b3q 11 _ rfl).2.1; rw [hT1] at q; exact q
    have sh11 : T16.2.1 (aC + 12) = (10, 24) := by have q := (b3q 11 _ rfl).1; rw [hT1] at q; exact q
    have ze11 : ∀ j, σM (aC + 12) j = 0 := by have q := (b3q 11 _ rfl).2.2; rw [hT1] at q; exact q
    have rf12 : T16.2.2 aC 17 = some (aC + 13) := by have q := (b3q 12 _ rfl).2.1; rw [hT1] at q; exact q
    have sh12 : T16.2.1 (aC + 13) = (10, 24) := by have q := (b3q 12 _ rfl).1; rw [hT1] at q; exact q
    have ze12 : ∀ j, σM (aC + 13) j = 0 := by have q := (b3q 12 _ rfl).2.2; rw [hT1] at q; exact q
    have rf13 : T16.2.2 aC 18 = some (aC + 14) := by have q := (b3q 13 _ rfl).2.1; rw [hT1] at q; exact q
    have sh13 : T16.2.1 (aC + 14) = (10, 60) := by have q := (b3q 13 _ rfl).1; rw [hT1] at q; exact q
    have ze13 : ∀ j, σM (aC + 14) j = 0 := by have q := (b3q 13 _ rfl).2.2; rw [hT1] at q; exact q
    have rf14 : T16.2.2 aC 19 = some (aC + 15) := by have q := (b3q 14 _ rfl).2.1; rw [hT1] at q; exact q
    have sh14 : T16.2.1 (aC + 15) = (10, 60) := by have q := (b3q 14 _ rfl).1; rw [hT1] at q; exact q
    have ze14 : ∀ j, σM (aC + 15) j = 0 := by have q := (b3q 14 _ rfl).2.2; rw [hT1] at q; exact q
    have rf15 : T16.2.2 aC 20 = some (aC + 16) := by have q := (b3q 15 _ rfl).2.1; rw [hT1] at q; exact q
    have sh15 : T16.2.1 (aC + 16) = (10, 300) := by have q := (b3q 15 _ rfl).1; rw [hT1] at q; exact q
    have ze15 : ∀ j, σM (aC + 16) j = 0 := by have q := (b3q 15 _ rfl).2.2; rw [hT1] at q; exact q
    have hm9 : T16.2.1 aC = (9, 0) := (b2q aC ha).1.trans hs
    have lp : ∀ (n : Nat) (kx : Nat), 4 - kx < n → (kx ≤ 4) → oW p l ee ({ frames := 1, cells := 16, slots := 56875, locals := 21 } : Room) s m args below meth c G b 2 16 56875 (MQ below (o_Qc G b (oPc (fun T2 σ2 => oM0 T T2 σ σ2 aC))) args s 16 56875 (fun q => b ≤ q)) T16 (o_row σM (aC + 9) (fun j => if j < kx then -7 else 0)) 202 [some (og aC), some (oi ((kx : Nat) : Int))] [] := by
      intro n
      induction n with
      | zero =>
        intro kx hms
        exact absurd hms (Nat.not_lt_zero _)
      | succ n ih =>
        intro kx hms k1
        refine r_il1 (q := 203) C dX9_init_202 rfl ?_
        refine r_iconst (q := 204) C dX9_init_203 rfl ?_
        refine r_icge (q := 221) (q2 := 207) C (by omega) (by omega) dX9_init_204 (by decide) rfl (fun br204 => ?_) (fun br204 => ?_)
        · refine r_vret C hr dX9_init_221 (by decide) (by decide) ?_
          have hk4 : kx = 4 := by omega
          subst hk4
          have hfd : o_row σM (aC + 9) (fun j => if j < 4 then -7 else 0) aC = (o_up (o_up (o_up (o_up (o_up (o_up (o_up (o_up (o_up (o_up (o_up (o_up σ aC 4 0) aC 5 (-7)) aC 6 0) aC 7 0) aC 12 0) aC 21 0) aC 22 0) aC 23 0) aC 24 0) aC 25 (-7)) aC 26 (-7)) aC 27 0) aC := by rw [o_row_ne (by omega), b4q aC ha]
          refine ⟨rfl, ⟨(b2q aC ha).1.trans hs, rf0, rf1, rf2, rf3, rf4, rf5, rf6, rf7, rf8, rf9, rf10, rf11, rf12, rf13, rf14, rf15, sh0, sh1, sh2, sh3, sh4, sh5, sh6, sh7, sh8, sh9, sh10, sh11, sh12, sh13, sh14, sh15, by rw [hT16]; omega⟩, by rw [hT16, hT1], fun x hx => b2q x hx, fun x hx => ?_, ⟨by rw [hfd, o_up_nj (Or.inr (by decide)), o_up_nj (Or.inr (by decide)), o_up_nj (Or.inr (by decide)), o_up_nj (Or.inr (by decide)), o_up_nj (Or.inr (by decide)), o_up_nj (Or.inr (by decide)), o_up_nj (Or.inr (by decide)), o_up_nj (Or.inr (by decide)), o_up_nj (Or.inr (by decide)), o_up_nj (Or.inr (by decide)), o_up_nj (Or.inr (by decide)), o_up_at], by rw [hfd, o_up_nj (Or.inr (by decide)), o_up_nj (Or.inr (by decide)), o_up_nj (Or.inr (by decide)), o_up_nj (Or.inr (by decide)), o_up_nj (Or.inr (by decide)), o_up_nj (Or.inr (by decide)), o_up_nj (Or.inr (by decide)), o_up_nj (Or.inr (by decide)), o_up_nj (Or.inr (by decide)), o_up_nj (Or.inr (by decide)), o_up_at], by rw [hfd, o_up_nj (Or.inr (by decide)), o_up_nj (Or.inr (by decide)), o_up_nj (Or.inr (by decide)), o_up_nj (Or.inr (by decide)), o_up_nj (Or.inr (by decide)), o_up_nj (Or.inr (by decide)), o_up_nj (Or.inr (by decide)), o_up_nj (Or.inr (by decide)), o_up_nj (Or.inr (by decide)), o_up_at], by rw [hfd, o_up_nj (Or.inr (by decide)), o_up_nj (Or.inr (by decide)), o_up_nj (Or.inr (by decide)), o_up_nj (Or.inr (by decide)), o_up_nj (Or.inr (by decide)), o_up_nj (Or.inr (by decide)), o_up_nj (Or.inr (by decide)), o_up_nj (Or.inr (by decide)), o_up_at], by rw [hfd, o_up_nj (Or.inr (by decide)), o_up_nj (Or.inr (by decide)), o_up_nj (Or.inr (by decide)), o_up_nj (Or.inr (by decide)), o_up_nj (Or.inr (by decide)), o_up_nj (Or.inr (by decide)), o_up_nj (Or.inr (by decide)), o_up_at], by rw [hfd, o_up_nj (Or.inr (by decide)), o_up_nj (Or.inr (by decide)), o_up_nj (Or.inr (by decide)), o_up_nj (Or.inr (by decide)), o_up_nj (Or.inr (by decide)), o_up_nj (Or.inr (by decide)), o_up_at], by rw [hfd, o_up_nj (Or.inr (by decide)), o_up_nj (Or.inr (by decide)), o_up_at], by rw [hfd, o_up_nj (Or.inr (by decide)), o_up_at]⟩, fun c c1x c2x c9 i => ?_, fun i hi => ?_⟩
          · rw [o_row_ne (by omega), b4q x (by omega), o_up_ne (by omega), o_up_ne (by omega), o_up_ne (by omega), o_up_ne (by omega), o_up_ne (by omega), o_up_ne (by omega), o_up_ne (by omega), o_up_ne (by omega), o_up_ne (by omega), o_up_ne (by omega), o_up_ne (by omega), o_up_ne (by omega)]
          · rw [o_row_ne (by omega)]
            rcases (show c = 1 ∨ c = 2 ∨ c = 3 ∨ c = 4 ∨ c = 5 ∨ c = 6 ∨ c = 7 ∨ c = 8 ∨ c = 10 ∨ c = 11 ∨ c = 12 ∨ c = 13 ∨ c = 14 ∨ c = 15 ∨ c = 16 by omega) with rfl | rfl | rfl | rfl | rfl | rfl | rfl | rfl | rfl | rfl | rfl | rfl | rfl | rfl | rfl
            · exact ze0 i
            · exact ze1 i
            · exact ze2 i
            · exact ze3 i
            · exact ze4 i
            · exact ze5 i
            · exact ze6 i
            · exact ze7 i
            · exact ze9 i
            · exact ze10 i
            · exact ze11 i
            · exact ze12 i
            · exact ze13 i
            · exact ze14 i
            · exact ze15 i
          · rw [o_row_at, if_pos hi]
        · refine r_al0 (q := 208) C dX9_init_207 rfl ?_
          refine r_getR (q := 211) C f_X9_52 dX9_init_208 rfl rfl rf8 (by assumption) (by omega) ?_
          refine r_il1 (q := 212) C dX9_init_211 rfl ?_
          refine r_bipush (q := 214) C dX9_init_212 (by decide) rfl ?_
          refine r_iast (q := 215) C (kx) dX9_init_214 rfl (by assumption) (by omega) (by omega) (by omega) (by decide) ?_
          rw [o_row_up, til_s]
          refine r_iinc1 (q := 218) C dX9_init_215 rfl (by decide) ?_
          refine r_goto (q := 202) C dX9_init_218 (by decide) ?_
          exact ih (kx + 1) (by omega) (by omega)
    have h0 := lp _ 0 (Nat.lt_succ_self _) (by omega)
    rw [show o_row σM (aC + 9) (fun j => if j < 0 then -7 else 0) = σM by rw [show (fun j : Nat => if j < 0 then (-7 : Int) else 0) = σM (aC + 9) from funext fun j => by rw [if_neg (Nat.not_lt_zero _), ze8 j]]; exact o_row_self] at h0
    exact h0
  exact key _ hP12
