theorem settle_w {rx wi : Int} {Lh : List (Nat → Int)} {A : Nat → Int} (h : wi = 1) : settleL rx wi Lh A = Lh := by
  unfold settleL keptL
  rw [if_neg (show ¬ wi = 0 by omega)]
  split <;> rfl
theorem oMH_B {σ : oM} {mC : Nat} {Lh : List (Nat → Int)} {A B : Nat → Int} (h : oMH σ mC (hpush Lh B)) (hA : ∀ x, x < 5055 → B x = A x) : oMH σ mC (hpush Lh A) := by
  unfold hpush at h ⊢
  generalize (if Lh.length = 8 then Lh.drop 1 else Lh) = L0 at h ⊢
  obtain ⟨h1, h2, h3⟩ := h
  rw [List.length_append] at h1 h2
  refine ⟨by rw [List.length_append]; exact h1, by rw [List.length_append]; exact h2, fun kx D hD x hx => ?_⟩
  by_cases hk : kx < L0.length
  · rw [List.getElem?_append_left hk] at hD
    exact h3 kx D (by rw [List.getElem?_append_left hk]; exact hD) x hx
  · rw [List.getElem?_append_right (by omega)] at hD
    have hj := (List.getElem?_eq_some_iff.mp hD).1
    rw [List.length_cons, List.length_nil] at hj
    have hj2 : kx = L0.length := by omega
    subst hj2
    rw [Nat.sub_self] at hD
    cases hD
    rw [← hA x hx]
    exact h3 L0.length B (by rw [List.getElem?_append_right (Nat.le_refl _), Nat.sub_self]; rfl) x hx
set_option maxRecDepth 20000 in
set_option maxHeartbeats 8000000 in
theorem c_X9_does {T : oT} {σ : oM} {mC : Nat} (hM : oMm T mC) {Bd : Int} (hI : oI Bd (σ (mC + 1))) {Lh : List (Nat → Int)} (hH : oMH σ mC Lh) (h7 : σ mC 7 = 1) {kN : Nat} {cl : Int} {ns : List Int} (hkN : kN < 60) (hok : okC (cl, ns)) (hc1 : σ (mC + 15) kN = cl) (hc2 : ∀ (jx : Nat) (v : Int), ns[jx]? = some v → σ (mC + 16) (5 * kN + jx) = v) : MS yX9_does cX9_does 6 (some FieldType.int) 4 1 8 93 [og mC, oi ((kN : Nat) : Int)] T σ (oPa (fun zx T2 σ2 => zx = (fDo (σ (mC + 1)) (σ mC 5) (cl, ns)).1 ∧ oMe T T2 σ σ2 mC (fDo (σ (mC + 1)) (σ mC 5) (cl, ns)).2.1 Lh (fDo (σ (mC + 1)) (σ mC 5) (cl, ns)).2.2)) := by
  have hMc := hM
  obtain ⟨hM0, hMr0, hMr1, hMr2, hMr3, hMr8, hMr9, hMr10, hMr11, hMr13, hMr14, hMr15, hMr16, hMr17, hMr18, hMr19, hMr20, hMk1, hMk2, hMk3, hMk4, hMk5, hMk6, hMk7, hMk8, hMk9, hMk10, hMk11, hMk12, hMk13, hMk14, hMk15, hMk16, hMT⟩ := hMc
  have hI0 := hI.2.1
  have hI1 := hI.2.2.1
  have hI2 := hI.2.2.2.1
  have hIn := oI_n hI
  have hIB := hI.1
  have hg : ∀ jx, jx < ns.length → σ (mC + 16) (5 * kN + jx) = ns.getD jx 0 ∧ 0 ≤ ns.getD jx 0 ∧ ns.getD jx 0 ≤ 9999 := fun jx hj => by
    have e1 : ns[jx]? = some (ns[jx]'hj) := List.getElem?_eq_getElem hj
    have e2 : ns.getD jx 0 = ns[jx]'hj := by rw [List.getD_eq_getElem?_getD, e1]; rfl
    rw [e2]
    exact ⟨hc2 jx _ e1, hok.2.2 _ (List.getElem_mem hj)⟩
  refine o_met (by decide +kernel) (Nat.le_of_ble_eq_true rfl) (fun p l ee s m args below meth c G b C hr hn => ?_)
  have C : oCx p s m args meth c G b RX9 cX9_does 6 := C
  show oW p l ee ({ frames := 4, cells := 1, slots := 8, locals := 93 } : Room) s m args below meth c G b 6 0 0 (MQ below (o_Qc G b (oPa (fun zx T2 σ2 => zx = (fDo (σ (mC + 1)) (σ mC 5) (cl, ns)).1 ∧ oMe T T2 σ σ2 mC (fDo (σ (mC + 1)) (σ mC 5) (cl, ns)).2.1 Lh (fDo (σ (mC + 1)) (σ mC 5) (cl, ns)).2.2))) args s 1 8 (fun q => b ≤ q)) T σ 0 [some (og mC), some (oi ((kN : Nat) : Int)), none, none, none, none] []
  refine r_al0 (q := 1) C dX9_does_0 rfl ?_
  refine r_getR (q := 4) C f_X9_73 dX9_does_1 rfl rfl (by assumption) (by assumption) (by omega) ?_
  refine r_iconst (q := 5) C dX9_does_4 rfl ?_
  refine r_il1 (q := 6) C dX9_does_5 rfl ?_
  refine r_imul (q := 7) C dX9_does_6 rfl ?_
  refine r_iald (q := 8) C (5 * kN) dX9_does_7 rfl (by assumption) (by omega) (by omega) (by omega) (by decide) ?_
  refine r_is2 (q := 9) C dX9_does_8 rfl (by decide) ?_
  refine r_al0 (q := 10) C dX9_does_9 rfl ?_
  refine r_getR (q := 13) C f_X9_73 dX9_does_10 rfl rfl (by assumption) (by assumption) (by omega) ?_
  refine r_iconst (q := 14) C dX9_does_13 rfl ?_
  refine r_il1 (q := 15) C dX9_does_14 rfl ?_
  refine r_imul (q := 16) C dX9_does_15 rfl ?_
  refine r_iconst (q := 17) C dX9_does_16 rfl ?_
  refine r_iadd (q := 18) C dX9_does_17 rfl ?_
  refine r_iald (q := 19) C (5 * kN + 1) dX9_does_18 rfl (by assumption) (by omega) (by omega) (by omega) (by decide) ?_
  refine r_is3 (q := 20) C dX9_does_19 rfl (by decide) ?_
  refine r_al0 (q := 21) C dX9_does_20 rfl ?_
  refine r_getR (q := 24) C f_X9_73 dX9_does_21 rfl rfl (by assumption) (by assumption) (by omega) ?_
  refine r_iconst (q := 25) C dX9_does_24 rfl ?_
  refine r_il1 (q := 26) C dX9_does_25 rfl ?_
  refine r_imul (q := 27) C dX9_does_26 rfl ?_
  refine r_iconst (q := 28) C dX9_does_27 rfl ?_
  refine r_iadd (q := 29) C dX9_does_28 rfl ?_
  refine r_iald (q := 30) C (5 * kN + 2) dX9_does_29 rfl (by assumption) (by omega) (by omega) (by omega) (by decide) ?_
  refine r_is4 (q := 32) C dX9_does_30 rfl (by decide) ?_
  refine r_al0 (q := 33) C dX9_does_32 rfl ?_
  refine r_getR (q := 36) C f_X9_73 dX9_does_33 rfl rfl (by assumption) (by assumption) (by omega) ?_
  refine r_iconst (q := 37) C dX9_does_36 rfl ?_
  refine r_il1 (q := 38) C dX9_does_37 rfl ?_
  refine r_imul (q := 39) C dX9_does_38 rfl ?_
  refine r_iconst (q := 40) C dX9_does_39 rfl ?_
  refine r_iadd (q := 41) C dX9_does_40 rfl ?_
  refine r_iald (q := 42) C (5 * kN + 3) dX9_does_41 rfl (by assumption) (by omega) (by omega) (by omega) (by decide) ?_
  refine r_is5 (q := 44) C dX9_does_42 rfl (by decide) ?_
  refine r_al0 (q := 45) C dX9_does_44 rfl ?_
  refine r_getR (q := 48) C f_X9_70 dX9_does_45 rfl rfl (by assumption) (by assumption) (by omega) ?_
  refine r_il1 (q := 49) C dX9_does_48 rfl ?_
  refine r_iald (q := 50) C (kN) dX9_does_49 rfl (by assumption) (by omega) (by omega) (by omega) (by decide) ?_
  rw [hc1]
  rcases okC_c hok with ⟨rfl, hle⟩ | ⟨rfl, hle⟩ | ⟨rfl, hle⟩ | ⟨rfl, hle⟩ | ⟨rfl, hle⟩ | ⟨rfl, hle⟩ | ⟨rfl, hle⟩
  · have g0 := hg 0 (by omega)
    have g1 := hg 1 (by omega)
    have g2 := hg 2 (by omega)
    rw [show σ (mC + 16) (5 * kN) = ns.getD 0 0 from g0.1, g1.1, g2.1]
    refine r_lsw (q := 108) (off := 58) C dX9_does_50 (by omega) (by decide) (by rfl) (by decide) ?_
    refine r_al0 (q := 109) C dX9_does_108 rfl ?_
    refine r_il2 (q := 110) C dX9_does_109 rfl ?_
    refine r_il3 (q := 111) C dX9_does_110 rfl ?_
    refine r_il4 (q := 113) C dX9_does_111 rfl ?_
    refine r_callVs (q := 116) C (c_X9_cut hM hI hH (Or.inr h7) (by omega) (by omega) (by omega)) m_X9_253 (by assumption) (by omega) dX9_does_113 rfl rfl (by decide) (by decide) (Nat.le_of_ble_eq_true rfl) (fun z2 σ2 hσ2 => ?_)
    exact r_iret C hr dX9_does_116 (by decide) (by decide) ⟨_, rfl, by rw [fDo_99]; exact hσ2.1, by rw [fDo_99]; exact oMe_of (by have q := hσ2.2; rw [settle_w h7] at q; exact q)⟩
  · have g0 := hg 0 (by omega)
    have g1 := hg 1 (by omega)
    have g2 := hg 2 (by omega)
    rw [show σ (mC + 16) (5 * kN) = ns.getD 0 0 from g0.1, g1.1, g2.1]
    have g3 := hg 3 (by omega)
    rw [g3.1]
    refine r_lsw (q := 117) (off := 67) C dX9_does_50 (by omega) (by decide) (by rfl) (by decide) ?_
    refine r_al0 (q := 118) C dX9_does_117 rfl ?_
    refine r_il2 (q := 119) C dX9_does_118 rfl ?_
    refine r_il3 (q := 120) C dX9_does_119 rfl ?_
    refine r_il4 (q := 122) C dX9_does_120 rfl ?_
    refine r_il5 (q := 124) C dX9_does_122 rfl ?_
    refine r_callVs (q := 127) C (c_X9_insert hM hI hH (Or.inr h7) (by omega) (by omega) (by omega) (by omega)) m_X9_256 (by assumption) (by omega) dX9_does_124 rfl rfl (by decide) (by decide) (Nat.le_of_ble_eq_true rfl) (fun z2 σ2 hσ2 => ?_)
    exact r_iret C hr dX9_does_127 (by decide) (by decide) ⟨_, rfl, by rw [fDo_105]; exact hσ2.1, by rw [fDo_105]; exact oMe_of (by have q := hσ2.2; rw [settle_w h7] at q; exact q)⟩
  · have g0 := hg 0 (by omega)
    have g1 := hg 1 (by omega)
    have g2 := hg 2 (by omega)
    rw [show σ (mC + 16) (5 * kN) = ns.getD 0 0 from g0.1, g1.1, g2.1]
    refine r_lsw (q := 128) (off := 78) C dX9_does_50 (by omega) (by decide) (by rfl) (by decide) ?_
    refine r_al0 (q := 129) C dX9_does_128 rfl ?_
    refine r_il2 (q := 130) C dX9_does_129 rfl ?_
    refine r_il3 (q := 131) C dX9_does_130 rfl ?_
    refine r_il4 (q := 133) C dX9_does_131 rfl ?_
    refine r_callVs (q := 136) C (c_X9_rework hM hI hH (Or.inr h7) (by omega) (by omega) (by omega)) m_X9_260 (by assumption) (by omega) dX9_does_133 rfl rfl (by decide) (by decide) (Nat.le_of_ble_eq_true rfl) (fun z2 σ2 hσ2 => ?_)
    exact r_iret C hr dX9_does_136 (by decide) (by decide) ⟨_, rfl, by rw [fDo_119]; exact hσ2.1, by rw [fDo_119]; exact oMe_of (by have q := hσ2.2; rw [settle_w h7] at q; exact q)⟩
  · have g0 := hg 0 (by omega)
    have g1 := hg 1 (by omega)
    have g2 := hg 2 (by omega)
    rw [show σ (mC + 16) (5 * kN) = ns.getD 0 0 from g0.1, g1.1, g2.1]
    refine r_lsw (q := 137) (off := 87) C dX9_does_50 (by omega) (by decide) (by rfl) (by decide) ?_
    refine r_al0 (q := 138) C dX9_does_137 rfl ?_
    refine r_il2 (q := 139) C dX9_does_138 rfl ?_
    refine r_il3 (q := 140) C dX9_does_139 rfl ?_
    refine r_il4 (q := 142) C dX9_does_140 rfl ?_
    refine r_callVs (q := 145) C (c_X9_tempo hM hI hH (Or.inr h7) (by omega) (by omega) (by omega)) m_X9_263 (by assumption) (by omega) dX9_does_142 rfl rfl (by decide) (by decide) (Nat.le_of_ble_eq_true rfl) (fun z2 σ2 hσ2 => ?_)
    exact r_iret C hr dX9_does_145 (by decide) (by decide) ⟨_, rfl, by rw [fDo_116]; exact hσ2.1, by rw [fDo_116]; exact oMe_of (by have q := hσ2.2; rw [settle_w h7] at q; exact q)⟩
  · have g0 := hg 0 (by omega)
    have g1 := hg 1 (by omega)
    have g2 := hg 2 (by omega)
    rw [show σ (mC + 16) (5 * kN) = ns.getD 0 0 from g0.1, g1.1, g2.1]
    have g3 := hg 3 (by omega)
    rw [g3.1]
    refine r_lsw (q := 146) (off := 96) C dX9_does_50 (by omega) (by decide) (by rfl) (by decide) ?_
    refine r_al0 (q := 147) C dX9_does_146 rfl ?_
    refine r_il2 (q := 148) C dX9_does_147 rfl ?_
    refine r_il3 (q := 149) C dX9_does_148 rfl ?_
    refine r_il4 (q := 151) C dX9_does_149 rfl ?_
    refine r_il5 (q := 153) C dX9_does_151 rfl ?_
    refine r_callVs (q := 156) C (c_X9_bow hM hI hH (Or.inr h7) (by omega) (by omega) (by omega) (by omega)) m_X9_266 (by assumption) (by omega) dX9_does_153 rfl rfl (by decide) (by decide) (Nat.le_of_ble_eq_true rfl) (fun z2 σ2 hσ2 => ?_)
    exact r_iret C hr dX9_does_156 (by decide) (by decide) ⟨_, rfl, by rw [fDo_98]; exact hσ2.1, by rw [fDo_98]; exact oMe_of (by have q := hσ2.2; rw [settle_w h7] at q; exact q)⟩
  · have g0 := hg 0 (by omega)
    have g1 := hg 1 (by omega)
    have g2 := hg 2 (by omega)
    rw [show σ (mC + 16) (5 * kN) = ns.getD 0 0 from g0.1, g1.1, g2.1]
    have g3 := hg 3 (by omega)
    rw [g3.1]
    have g4 := hg 4 (by omega)
    refine r_lsw (q := 157) (off := 107) C dX9_does_50 (by omega) (by decide) (by rfl) (by decide) ?_
    refine r_al0 (q := 158) C dX9_does_157 rfl ?_
    refine r_il2 (q := 159) C dX9_does_158 rfl ?_
    refine r_il3 (q := 160) C dX9_does_159 rfl ?_
    refine r_il4 (q := 162) C dX9_does_160 rfl ?_
    refine r_il5 (q := 164) C dX9_does_162 rfl ?_
    refine r_al0 (q := 165) C dX9_does_164 rfl ?_
    refine r_getR (q := 168) C f_X9_73 dX9_does_165 rfl rfl (by assumption) (by assumption) (by omega) ?_
    refine r_iconst (q := 169) C dX9_does_168 rfl ?_
    refine r_il1 (q := 170) C dX9_does_169 rfl ?_
    refine r_imul (q := 171) C dX9_does_170 rfl ?_
    refine r_iconst (q := 172) C dX9_does_171 rfl ?_
    refine r_iadd (q := 173) C dX9_does_172 rfl ?_
    refine r_iald (q := 174) C (5 * kN + 4) dX9_does_173 rfl (by assumption) (by omega) (by omega) (by omega) (by decide) ?_
    rw [g4.1]
    refine r_callV (q := 177) C (c_X9_lend hM hI hH (Or.inr h7) (by omega) (by omega) (by omega) (by omega) (by omega)) m_X9_269 (by assumption) (by omega) dX9_does_174 rfl rfl (by decide) (by decide) (Nat.le_of_ble_eq_true rfl) (fun r2 T2 σ2 hσ2 => ?_)
    obtain ⟨zx, rfl, hz, hE⟩ := hσ2
    rw [settle_w h7] at hE
    exact r_iret C hr dX9_does_177 (by decide) (by decide) ⟨_, rfl, by rw [fDo_108]; exact hz, by rw [fDo_108]; exact hE⟩
  · have g0 := hg 0 (by omega)
    have g1 := hg 1 (by omega)
    have g2 := hg 2 (by omega)
    rw [show σ (mC + 16) (5 * kN) = ns.getD 0 0 from g0.1, g1.1, g2.1]
    refine r_lsw (q := 178) (off := 128) C dX9_does_50 (by omega) (by decide) (by rfl) (by decide) ?_
    refine r_al0 (q := 179) C dX9_does_178 rfl ?_
    refine r_il2 (q := 180) C dX9_does_179 rfl ?_
    refine r_il3 (q := 181) C dX9_does_180 rfl ?_
    refine r_il4 (q := 183) C dX9_does_181 rfl ?_
    refine r_callVs (q := 186) C (c_X9_bring hM hI hH (Or.inr h7) (by omega) (by omega) (by omega)) m_X9_272 (by assumption) (by omega) dX9_does_183 rfl rfl (by decide) (by decide) (Nat.le_of_ble_eq_true rfl) (fun z2 σ2 hσ2 => ?_)
    exact r_iret C hr dX9_does_186 (by decide) (by decide) ⟨_, rfl, by rw [fDo_114]; exact hσ2.1, by rw [fDo_114]; exact oMe_of (by have q := hσ2.2; rw [settle_w h7] at q; exact q)⟩
