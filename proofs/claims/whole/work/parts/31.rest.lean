/-! the class's other methods: bowings copied, boxes, the latest answers, the snapshot, undo -/
/-- what the copier told: nothing yet, or its counts -/
def oTl (σ : oM) (cC : Nat) (tl : oTold) : Prop := (σ cC 0 = 0 ∧ tl = (-7, -7, -7, -7)) ∨ (σ cC 0 = 1 ∧ σ cC 1 = tl.1 ∧ σ cC 2 = tl.2.1 ∧ σ cC 3 = tl.2.2.1 ∧ σ cC 4 = tl.2.2.2)
/-- as oCk, and the copier's counts -/
def oCq (σ σ2 : oM) (xC : Nat) (A : Nat → Int) (Lh : List (Nat → Int)) (tl : oTold) : Prop := oHR σ2 (xC + 1) A ∧ oHis σ2 (xC + 209) Lh ∧ oTl σ2 (xC + 1152) tl ∧ (∀ x, (x < xC + 1 ∨ (xC + 105 ≤ x ∧ x < xC + 209) ∨ xC + 1147 ≤ x) → x ≠ xC + 1152 → σ2 x = σ x)
theorem cpAll_of {σ : oM} {hC fN tN iN : Nat} {A : Nat → Int} {rp : Int} (h : oHR σ hC A) (hf : fN < nEd A) (ht : tN < nEd A) (hi : iN < 4) : (cpS (σ (hC + 2 + 13 * fN + 6 + iN)) (σ (hC + 2 + 13 * fN + 1)) (σ (hC + 2 + 13 * fN + 2)) (σ (hC + 2 + 13 * tN + 1)) (σ (hC + 2 + 13 * tN + 2)) (nBr A tN) rp (σ (hC + 2 + 13 * tN + 6 + iN)) (nBr A fN)).1 = (cpAll A fN tN iN rp).1 ∧ ∀ j, 1 ≤ j → j ≤ nBr A tN → (cpS (σ (hC + 2 + 13 * fN + 6 + iN)) (σ (hC + 2 + 13 * fN + 1)) (σ (hC + 2 + 13 * fN + 2)) (σ (hC + 2 + 13 * tN + 1)) (σ (hC + 2 + 13 * tN + 2)) (nBr A tN) rp (σ (hC + 2 + 13 * tN + 6 + iN)) (nBr A fN)).2 j = (cpAll A fN tN iN rp).2 j :=
  cpS_congr (fun j j1 j2 => by
    obtain ⟨g1, g2, g3, g4, g5⟩ := oHR_b h ht j1 j2
    exact ⟨g1, g2, g5 iN hi⟩) (nBr A fN) (fun j j1 j2 => by
    obtain ⟨g1, g2, g3, g4, g5⟩ := oHR_b h hf j1 j2
    exact ⟨g5 iN hi, g1, g2⟩)
set_option maxRecDepth 20000 in
set_option maxHeartbeats 8000000 in
theorem c_X8_copyBowings {T : oT} {σ : oM} {xC : Nat} {A : Nat → Int} {Bd : Int} (hX : oX T xC) (hR : oHR σ (xC + 1) A) (hI : oI Bd A) {Lh : List (Nat → Int)} (hH : oHis σ (xC + 209) Lh) (hb : ∀ B ∈ Lh, nEd B ≤ 6 ∧ nLn B ≤ 20) {tl : oTold} (hTl : oTl σ (xC + 1152) tl) {z v w u : Int} (hz : o_r z) (hv : o_r v) (hw : o_r w) (hu : o_r u) : MS yX8_copyBowings cX8_copyBowings 5 (some FieldType.int) 6 0 0 138 [og xC, oi z, oi v, oi w, oi u] T σ (oPs (fun zx σ2 => zx = (fCopyB A Lh tl z v w u).1 ∧ oCq σ σ2 xC (fCopyB A Lh tl z v w u).2.1 (fCopyB A Lh tl z v w u).2.2.1 (fCopyB A Lh tl z v w u).2.2.2) T) := by
  have hXc := hX
  obtain ⟨hX0, hXr0, hXr1, hXr2, hXr3, hXr4, hXr5, hXr6, hXn, hXs, hXy, hXq, hXk, hXb, hXbs, hXi, hXT⟩ := hXc
  have hHc := hXn
  obtain ⟨hH0, hH1, hH2, hH3, hH4, hH6, hG1, hG80, hG81, hG82, hG83, hEs, hLs, hHT⟩ := hHc
  have hRc := hR
  obtain ⟨hR0, hR5, hR7, hRw8, hRp, hRl, hRe⟩ := hRc
  have hIn := oI_n hI
  have hIc := hI
  obtain ⟨hI1, hI2, hI3, hI4, hI5, hI6, hI7, hI8, -⟩ := hIc
  have hY0 := hXy.1
  have hHc2 := hH
  obtain ⟨on, sn, ho, ho9, hsz, hlen, hs8, hrow⟩ := hHc2
  refine o_met (by decide +kernel) (Nat.le_of_ble_eq_true rfl) (fun p l ee s m args below meth c G b C hr hn => ?_)
  have C : oCx p s m args meth c G b RX8 cX8_copyBowings 5 := C
  show oW p l ee ({ frames := 6, cells := 0, slots := 0, locals := 138 } : Room) s m args below meth c G b 5 0 0 (MQ below (o_Qc G b (oPs (fun zx σ2 => zx = (fCopyB A Lh tl z v w u).1 ∧ oCq σ σ2 xC (fCopyB A Lh tl z v w u).2.1 (fCopyB A Lh tl z v w u).2.2.1 (fCopyB A Lh tl z v w u).2.2.2) T)) args s 0 0 (fun q => b ≤ q)) T σ 0 [some (og xC), some (oi z), some (oi v), some (oi w), some (oi u)] []
  refine r_al0 (q := 1) C dX8_copyBowings_0 rfl ?_
  refine r_il1 (q := 2) C dX8_copyBowings_1 rfl ?_
  refine r_callVb (q := 5) C (c_X8_isEdition hX hR hI (by omega)) m_X8_87 (by assumption) (by omega) dX8_copyBowings_2 rfl rfl (by decide) (by decide) (Nat.le_of_ble_eq_true rfl) (fun br2 => ?_) (fun br2 => ?_)
  · refine r_ifeq_f (q := 23) (q2 := 8) C (by decide) (by omega) dX8_copyBowings_5 (by decide) rfl ?_
    refine r_al0 (q := 9) C dX8_copyBowings_8 rfl ?_
    refine r_il2 (q := 10) C dX8_copyBowings_9 rfl ?_
    refine r_callVb (q := 13) C (c_X8_isEdition hX hR hI (by omega)) m_X8_87 (by assumption) (by omega) dX8_copyBowings_10 rfl rfl (by decide) (by decide) (Nat.le_of_ble_eq_true rfl) (fun br10 => ?_) (fun br10 => ?_)
    · refine r_ifeq_f (q := 23) (q2 := 16) C (by decide) (by omega) dX8_copyBowings_13 (by decide) rfl ?_
      refine r_il3 (q := 17) C dX8_copyBowings_16 rfl ?_
      refine r_callSb (q := 20) C (c_X8_isString (by omega)) m_X8_256 dX8_copyBowings_17 rfl rfl (by decide) (by decide) (Nat.le_of_ble_eq_true rfl) (fun br17 => ?_) (fun br17 => ?_)
      · refine r_ifne_t (q := 25) C (by decide) (by omega) dX8_copyBowings_20 (by decide) ?_
        have hs := fCopyB.eq_1 A Lh tl z v w u
        rw [if_pos ⟨br2, br10, br17⟩] at hs
        obtain ⟨eN, rfl, heN, heN6⟩ := isEd_n hI br2
        have hEj0 := (hEs eN (by omega)).1
        have hEd := (hEs eN (by omega)).2
        have hEj1 := hEd.1
        have hRE := oHR_e hR (ex := eN) (by omega)
        have hIE := oI_b hI (ex := eN) (by omega)
        obtain ⟨hRE0, hRE1, hRE2⟩ := hRE
        have hREc : ∀ ix, ix < 6 → _ := fun ix hi => oHR_c hR (ex := eN) (ix := ix) (by omega) hi
        have hREb : ∀ jx, 1 ≤ jx → jx ≤ nBr A eN → _ := fun jx j1 j2 => oHR_b hR (ex := eN) (jx := jx) (by omega) j1 j2
        obtain ⟨tN, rfl, htN, htN6⟩ := isEd_n hI br10
        have hEj0k := (hEs tN (by omega)).1
        have hEdk := (hEs tN (by omega)).2
        have hEj1k := hEdk.1
        obtain ⟨iN, rfl⟩ : ∃ iN : Nat, w = (iN : Int) := ⟨w.toNat, by omega⟩
        simp only [Int.toNat_natCast] at hs
        have hB1 := (oI_b hI heN).2.2
        have hB2 := (oI_b hI htN).2.2
        refine r_il1 (q := 26) C dX8_copyBowings_25 rfl ?_
        refine r_il2 (q := 27) C dX8_copyBowings_26 rfl ?_
        refine r_iceq (q := 49) (q2 := 30) C (by omega) (by omega) dX8_copyBowings_27 (by decide) rfl (fun br27 => ?_) (fun br27 => ?_)
        · refine r_bipush (q := 51) C dX8_copyBowings_49 (by decide) rfl ?_
          exact r_iret C hr dX8_copyBowings_51 (by decide) (by decide) ⟨_, rfl, rfl, by rw [hs, if_neg (fun hc => hc.1 br27)], by rw [hs, if_neg (fun hc => hc.1 br27)]; exact ⟨hR, hH, hTl, fun _ _ _ => rfl⟩⟩
        · refine r_al0 (q := 31) C dX8_copyBowings_30 rfl ?_
          refine r_il1 (q := 32) C dX8_copyBowings_31 rfl ?_
          refine r_il2 (q := 33) C dX8_copyBowings_32 rfl ?_
          refine r_callVb (q := 36) C (c_X8_areOfOneWork hX hR hI heN htN) m_X8_179 (by assumption) (by omega) dX8_copyBowings_33 rfl rfl (by decide) (by decide) (Nat.le_of_ble_eq_true rfl) (fun br33 => ?_) (fun br33 => ?_)
          · refine r_ifeq_f (q := 49) (q2 := 39) C (by decide) (by omega) dX8_copyBowings_36 (by decide) rfl ?_
            refine r_il4 (q := 41) C dX8_copyBowings_39 rfl ?_
            refine r_iconst (q := 42) C dX8_copyBowings_41 rfl ?_
            refine r_iconst (q := 43) C dX8_copyBowings_42 rfl ?_
            refine r_callSb (q := 46) C (c_X8_within hu (by omega) (by omega)) m_X8_68 dX8_copyBowings_43 rfl rfl (by decide) (by decide) (Nat.le_of_ble_eq_true rfl) (fun br43 => ?_) (fun br43 => ?_)
            · refine r_ifne_t (q := 52) C (by decide) (by omega) dX8_copyBowings_46 (by decide) ?_
              rw [if_pos ⟨br27, br33, br43⟩] at hs
              refine r_al0 (q := 53) C dX8_copyBowings_52 rfl ?_
              refine r_getR (q := 56) C f_X8_22 dX8_copyBowings_53 rfl rfl (by assumption) (by assumption) (by omega) ?_
              refine r_al0 (q := 57) C dX8_copyBowings_56 rfl ?_
              refine r_getR (q := 60) C f_X8_10 dX8_copyBowings_57 rfl rfl (by assumption) (by assumption) (by omega) ?_
              refine r_callVv (q := 63) C (c_X5_keep hXy ho ho9 hsz hs8 hXn (by omega) hR0 hIn.2.2.1 hR5 hIn.2.2.2 (fun j hj => ⟨nBr A j, (oHR_e hR hj).2.2, (oI_b hI hj).2.2.2⟩)) m_X8_79 (by assumption) (by omega) dX8_copyBowings_60 rfl rfl (by decide) (by decide) (Nat.le_of_ble_eq_true rfl) (fun σ2 hσ2 => ?_)
              obtain ⟨σ1, hk1, hk2⟩ := hσ2
              obtain ⟨hK, hH2, hfr2⟩ := keep_of (by omega) hR ⟨hIn.2.2.1, hIn.2.2.2⟩ ho ho9 hsz hlen hs8 hrow hb hk1 hk2
              have hpb := hpush_b hb (A := A) ⟨hIn.2.2.1, hIn.2.2.2⟩
              refine r_al0 (q := 64) C dX8_copyBowings_63 rfl ?_
              refine r_getR (q := 67) C f_X8_36 dX8_copyBowings_64 rfl rfl (by assumption) (by assumption) (by omega) ?_
              refine r_al0 (q := 68) C dX8_copyBowings_67 rfl ?_
              refine r_getR (q := 71) C f_X8_10 dX8_copyBowings_68 rfl rfl (by assumption) (by assumption) (by omega) ?_
              refine r_getR (q := 74) C f_X8_107 dX8_copyBowings_71 rfl rfl (by assumption) (by assumption) (by omega) ?_
              refine r_il1 (q := 75) C dX8_copyBowings_74 rfl ?_
              refine r_aald (q := 76) C (eN) dX8_copyBowings_75 rfl (by assumption) (by omega) (by omega) (by omega) (by decide) hEj0 rfl rfl (by decide) (by decide) ?_
              refine r_al0 (q := 77) C dX8_copyBowings_76 rfl ?_
              refine r_getR (q := 80) C f_X8_10 dX8_copyBowings_77 rfl rfl (by assumption) (by assumption) (by omega) ?_
              refine r_getR (q := 83) C f_X8_107 dX8_copyBowings_80 rfl rfl (by assumption) (by assumption) (by omega) ?_
              refine r_il2 (q := 84) C dX8_copyBowings_83 rfl ?_
              refine r_aald (q := 85) C (tN) dX8_copyBowings_84 rfl (by assumption) (by omega) (by omega) (by omega) (by decide) hEj0k rfl rfl (by decide) (by decide) ?_
              refine r_il3 (q := 86) C dX8_copyBowings_85 rfl ?_
              refine r_il4 (q := 88) C dX8_copyBowings_86 rfl ?_
              refine r_iconst (q := 89) C dX8_copyBowings_88 rfl ?_
              refine r_icne (q := 96) (q2 := 92) C (by omega) (by omega) dX8_copyBowings_89 (by decide) rfl (fun br89 => ?_) (fun br89 => ?_)
              · refine r_iconst (q := 97) C dX8_copyBowings_96 rfl ?_
                refine r_callVv (q := 100) C (c_X0_copyRow (eC := (xC + 1 + 2 + 13 * eN)) (aC := (xC + 1 + 2 + 13 * tN)) (ix := iN) (B1 := nBr A eN) (B2 := nBr A tN) (rp := 0) hXk (by omega) hEd hEdk (by omega) (by omega) (by omega) (by omega) (by omega) (oHR_e hK heN).2.2 (by omega) (oHR_e hK htN).2.2 (by omega) (fun j j1 j2 => by rw [(oHR_b hK heN j1 j2).1]; have := ((oI_b hI heN).1.2.2.2.2 j j1 j2).1; have := hI1; omega) (fun j j1 j2 => by rw [(oHR_b hK heN j1 j2).2.1]; have := ((oI_b hI heN).1.2.2.2.2 j j1 j2).2.1; have := hI1; omega) (fun j j1 j2 => by rw [(oHR_b hK htN j1 j2).1]; have := ((oI_b hI htN).1.2.2.2.2 j j1 j2).1; have := hI1; omega) (fun j j1 j2 => by rw [(oHR_b hK htN j1 j2).2.1]; have := ((oI_b hI htN).1.2.2.2.2 j j1 j2).2.1; have := hI1; omega) (fun j j1 j2 => by rw [(oHR_b hK heN j1 j2).2.2.2.2 iN (by omega)]; exact ((oI_b hI heN).1.2.2.2.2 j j1 j2).2.2.2.2 iN (by omega)) (fun j j1 j2 => by rw [(oHR_b hK htN j1 j2).2.2.2.2 iN (by omega)]; exact ((oI_b hI htN).1.2.2.2.2 j j1 j2).2.2.2.2 iN (by omega))) m_X8_263 (by assumption) (by omega) dX8_copyBowings_97 rfl rfl (by decide) (by decide) (Nat.le_of_ble_eq_true rfl) (fun σ3 hσ3 => ?_)
                refine r_al0 (q := 101) C dX8_copyBowings_100 rfl ?_
                refine r_getR (q := 104) C f_X8_36 dX8_copyBowings_101 rfl rfl (by assumption) (by assumption) (by omega) ?_
                refine r_getI (q := 107) C f_X8_267 dX8_copyBowings_104 rfl rfl (by assumption) (by omega) ?_
                refine r_iret C hr dX8_copyBowings_107 (by decide) (by decide) ?_
                obtain ⟨cq1, cq2⟩ := cpAll_of (rp := 0) hK heN htN (show iN < 4 by omega)
                have hu : u = 0 := by omega
                subst hu
                have hnew := oHR_row (σ2 := σ3) (gx := (cpAll A eN tN iN 0).2) hK hI htN (show iN < 4 by omega) (fun x h1 h2 h3 => by rw [hσ3]; exact o_cpr_ne (by omega) (by omega)) (fun jx j1 j2 => by rw [hσ3, o_cpr_row (by omega)]; exact cq2 jx j1 j2)
                have hfr3 : ∀ x, x ≠ xC + 1152 → (x < xC + 1 ∨ xC + 105 ≤ x) → σ3 x = σ2 x := fun x h1 h2 => by rw [hσ3]; exact o_cpr_ne h1 (by omega)
                refine ⟨_, rfl, rfl, by rw [hs, hσ3, o_cpr_c, cq1]; rfl, ?_⟩
                rw [hs]
                refine ⟨hnew, oHis_fr hH2 hpb (fun x h1 h2 => hfr3 x (by omega) (by omega)), Or.inr ⟨?_, ?_, ?_, ?_, ?_⟩, fun x h1 h2 => by rw [hfr3 x h2 (by omega)]; exact hfr2 x (by omega)⟩
                · rw [hσ3, o_cpr_c]
                  rfl
                · rw [hσ3, o_cpr_c, cq1]
                  rfl
                · rw [hσ3, o_cpr_c, cq1]
                  rfl
                · rw [hσ3, o_cpr_c, cq1]
                  rfl
                · rw [hσ3, o_cpr_c, cq1]
                  rfl
              · refine r_iconst (q := 93) C dX8_copyBowings_92 rfl ?_
                refine r_goto (q := 97) C dX8_copyBowings_93 (by decide) ?_
                refine r_callVv (q := 100) C (c_X0_copyRow (eC := (xC + 1 + 2 + 13 * eN)) (aC := (xC + 1 + 2 + 13 * tN)) (ix := iN) (B1 := nBr A eN) (B2 := nBr A tN) (rp := 1) hXk (by omega) hEd hEdk (by omega) (by omega) (by omega) (by omega) (by omega) (oHR_e hK heN).2.2 (by omega) (oHR_e hK htN).2.2 (by omega) (fun j j1 j2 => by rw [(oHR_b hK heN j1 j2).1]; have := ((oI_b hI heN).1.2.2.2.2 j j1 j2).1; have := hI1; omega) (fun j j1 j2 => by rw [(oHR_b hK heN j1 j2).2.1]; have := ((oI_b hI heN).1.2.2.2.2 j j1 j2).2.1; have := hI1; omega) (fun j j1 j2 => by rw [(oHR_b hK htN j1 j2).1]; have := ((oI_b hI htN).1.2.2.2.2 j j1 j2).1; have := hI1; omega) (fun j j1 j2 => by rw [(oHR_b hK htN j1 j2).2.1]; have := ((oI_b hI htN).1.2.2.2.2 j j1 j2).2.1; have := hI1; omega) (fun j j1 j2 => by rw [(oHR_b hK heN j1 j2).2.2.2.2 iN (by omega)]; exact ((oI_b hI heN).1.2.2.2.2 j j1 j2).2.2.2.2 iN (by omega)) (fun j j1 j2 => by rw [(oHR_b hK htN j1 j2).2.2.2.2 iN (by omega)]; exact ((oI_b hI htN).1.2.2.2.2 j j1 j2).2.2.2.2 iN (by omega))) m_X8_263 (by assumption) (by omega) dX8_copyBowings_97 rfl rfl (by decide) (by decide) (Nat.le_of_ble_eq_true rfl) (fun σ3 hσ3 => ?_)
                refine r_al0 (q := 101) C dX8_copyBowings_100 rfl ?_
                refine r_getR (q := 104) C f_X8_36 dX8_copyBowings_101 rfl rfl (by assumption) (by assumption) (by omega) ?_
                refine r_getI (q := 107) C f_X8_267 dX8_copyBowings_104 rfl rfl (by assumption) (by omega) ?_
                refine r_iret C hr dX8_copyBowings_107 (by decide) (by decide) ?_
                obtain ⟨cq1, cq2⟩ := cpAll_of (rp := 1) hK heN htN (show iN < 4 by omega)
                have hu : u = 1 := by omega
                subst hu
                have hnew := oHR_row (σ2 := σ3) (gx := (cpAll A eN tN iN 1).2) hK hI htN (show iN < 4 by omega) (fun x h1 h2 h3 => by rw [hσ3]; exact o_cpr_ne (by omega) (by omega)) (fun jx j1 j2 => by rw [hσ3, o_cpr_row (by omega)]; exact cq2 jx j1 j2)
                have hfr3 : ∀ x, x ≠ xC + 1152 → (x < xC + 1 ∨ xC + 105 ≤ x) → σ3 x = σ2 x := fun x h1 h2 => by rw [hσ3]; exact o_cpr_ne h1 (by omega)
                refine ⟨_, rfl, rfl, by rw [hs, hσ3, o_cpr_c, cq1]; rfl, ?_⟩
                rw [hs]
                refine ⟨hnew, oHis_fr hH2 hpb (fun x h1 h2 => hfr3 x (by omega) (by omega)), Or.inr ⟨?_, ?_, ?_, ?_, ?_⟩, fun x h1 h2 => by rw [hfr3 x h2 (by omega)]; exact hfr2 x (by omega)⟩
                · rw [hσ3, o_cpr_c]
                  rfl
                · rw [hσ3, o_cpr_c, cq1]
                  rfl
                · rw [hσ3, o_cpr_c, cq1]
                  rfl
                · rw [hσ3, o_cpr_c, cq1]
                  rfl
                · rw [hσ3, o_cpr_c, cq1]
                  rfl
            · refine r_ifne_f (q := 52) (q2 := 49) C (by decide) (by omega) dX8_copyBowings_46 (by decide) rfl ?_
              refine r_bipush (q := 51) C dX8_copyBowings_49 (by decide) rfl ?_
              exact r_iret C hr dX8_copyBowings_51 (by decide) (by decide) ⟨_, rfl, rfl, by rw [hs, if_neg (fun hc => br43 hc.2.2)], by rw [hs, if_neg (fun hc => br43 hc.2.2)]; exact ⟨hR, hH, hTl, fun _ _ _ => rfl⟩⟩
          · refine r_ifeq_t (q := 49) C (by decide) (by omega) dX8_copyBowings_36 (by decide) ?_
            refine r_bipush (q := 51) C dX8_copyBowings_49 (by decide) rfl ?_
            exact r_iret C hr dX8_copyBowings_51 (by decide) (by decide) ⟨_, rfl, rfl, by rw [hs, if_neg (fun hc => br33 hc.2.1)], by rw [hs, if_neg (fun hc => br33 hc.2.1)]; exact ⟨hR, hH, hTl, fun _ _ _ => rfl⟩⟩
      · refine r_ifne_f (q := 25) (q2 := 23) C (by decide) (by omega) dX8_copyBowings_20 (by decide) rfl ?_
        refine r_iconst (q := 24) C dX8_copyBowings_23 rfl ?_
        exact r_iret C hr dX8_copyBowings_24 (by decide) (by decide) ⟨_, rfl, rfl, by rw [fCopyB, if_neg (fun hc => br17 hc.2.2)], by rw [fCopyB, if_neg (fun hc => br17 hc.2.2)]; exact ⟨hR, hH, hTl, fun _ _ _ => rfl⟩⟩
    · refine r_ifeq_t (q := 23) C (by decide) (by omega) dX8_copyBowings_13 (by decide) ?_
      refine r_iconst (q := 24) C dX8_copyBowings_23 rfl ?_
      exact r_iret C hr dX8_copyBowings_24 (by decide) (by decide) ⟨_, rfl, rfl, by rw [fCopyB, if_neg (fun hc => br10 hc.2.1)], by rw [fCopyB, if_neg (fun hc => br10 hc.2.1)]; exact ⟨hR, hH, hTl, fun _ _ _ => rfl⟩⟩
  · refine r_ifeq_t (q := 23) C (by decide) (by omega) dX8_copyBowings_5 (by decide) ?_
    refine r_iconst (q := 24) C dX8_copyBowings_23 rfl ?_
    exact r_iret C hr dX8_copyBowings_24 (by decide) (by decide) ⟨_, rfl, rfl, by rw [fCopyB, if_neg (fun hc => br2 hc.1)], by rw [fCopyB, if_neg (fun hc => br2 hc.1)]; exact ⟨hR, hH, hTl, fun _ _ _ => rfl⟩⟩
def fCopied (tl : oTold) (z : Int) : Int := if 0 ≤ z ∧ z ≤ 3 then (if z = 0 then tl.1 else if z = 1 then tl.2.1 else if z = 2 then tl.2.2.1 else tl.2.2.2) else -1
set_option maxRecDepth 20000 in
set_option maxHeartbeats 8000000 in
theorem c_X8_copied {T : oT} {σ : oM} {xC : Nat} (hX : oX T xC) {tl : oTold} (hTl : oTl σ (xC + 1152) tl) {z : Int} (hz : o_r z) : MS yX8_copied cX8_copied 2 (some FieldType.int) 1 0 0 22 [og xC, oi z] T σ (oP1 (oi (fCopied tl z)) T σ) := by
  have hXc := hX
  obtain ⟨hX0, hXr0, hXr1, hXr2, hXr3, hXr4, hXr5, hXr6, hXn, hXs, hXy, hXq, hXk, hXb, hXbs, hXi, hXT⟩ := hXc
  refine o_met (by decide +kernel) (Nat.le_of_ble_eq_true rfl) (fun p l ee s m args below meth c G b C hr hn => ?_)
  have C : oCx p s m args meth c G b RX8 cX8_copied 2 := C
  show oW p l ee ({ frames := 1, cells := 0, slots := 0, locals := 22 } : Room) s m args below meth c G b 2 0 0 (MQ below (o_Qc G b (oP1 (oi (fCopied tl z)) T σ)) args s 0 0 (fun q => b ≤ q)) T σ 0 [some (og xC), some (oi z)] []
  refine r_il1 (q := 1) C dX8_copied_0 rfl ?_
  refine r_iconst (q := 2) C dX8_copied_1 rfl ?_
  refine r_iconst (q := 3) C dX8_copied_2 rfl ?_
  refine r_callSb (q := 6) C (c_X8_within hz (by omega) (by omega)) m_X8_68 dX8_copied_3 rfl rfl (by decide) (by decide) (Nat.le_of_ble_eq_true rfl) (fun br3 => ?_) (fun br3 => ?_)
  · refine r_ifne_t (q := 11) C (by decide) (by omega) dX8_copied_6 (by decide) ?_
    have hs := fCopied.eq_1 tl z
    rw [if_pos br3] at hs
    have hTc := hTl
    unfold oTl at hTc
    have hk0 : o_r (σ (xC + 1152) 0) := by omega
    refine r_al0 (q := 12) C dX8_copied_11 rfl ?_
    refine r_getR (q := 15) C f_X8_36 dX8_copied_12 rfl rfl (by assumption) (by assumption) (by omega) ?_
    refine r_getI (q := 18) C f_X8_270 dX8_copied_15 rfl rfl (by assumption) (by omega) ?_
    refine r_ifne (q := 24) (q2 := 21) C (by omega) dX8_copied_18 (by decide) rfl (fun br18 => ?_) (fun br18 => ?_)
    · obtain ⟨-, t1, t2, t3, t4⟩ := hTc.resolve_left (fun hc => br18 hc.1)
      refine r_il1 (q := 25) C dX8_copied_24 rfl ?_
      rcases (show z = 0 ∨ z = 1 ∨ z = 2 ∨ (z < 0 ∨ 2 < z) by omega) with hw1 | hw1 | hw1 | hw1
      ·
        refine r_tsin (q := 52) (j := 0) C dX8_copied_25 (by omega) (by omega) (by decide) rfl (by decide) ?_
        refine r_al0 (q := 53) C dX8_copied_52 rfl ?_
        refine r_getR (q := 56) C f_X8_36 dX8_copied_53 rfl rfl (by assumption) (by assumption) (by omega) ?_
        refine r_getI (q := 59) C f_X8_267 dX8_copied_56 rfl rfl (by assumption) (by omega) ?_
        exact r_iret C hr dX8_copied_59 (by decide) (by decide) ⟨by rw [hs, if_pos hw1, t1], rfl, rfl⟩
      ·
        refine r_tsin (q := 60) (j := 1) C dX8_copied_25 (by omega) (by omega) (by decide) rfl (by decide) ?_
        refine r_al0 (q := 61) C dX8_copied_60 rfl ?_
        refine r_getR (q := 64) C f_X8_36 dX8_copied_61 rfl rfl (by assumption) (by assumption) (by omega) ?_
        refine r_getI (q := 67) C f_X8_273 dX8_copied_64 rfl rfl (by assumption) (by omega) ?_
        exact r_iret C hr dX8_copied_67 (by decide) (by decide) ⟨by rw [hs, if_neg (by omega), if_pos hw1, t2], rfl, rfl⟩
      ·
        refine r_tsin (q := 68) (j := 2) C dX8_copied_25 (by omega) (by omega) (by decide) rfl (by decide) ?_
        refine r_al0 (q := 69) C dX8_copied_68 rfl ?_
        refine r_getR (q := 72) C f_X8_36 dX8_copied_69 rfl rfl (by assumption) (by assumption) (by omega) ?_
        refine r_getI (q := 75) C f_X8_276 dX8_copied_72 rfl rfl (by assumption) (by omega) ?_
        exact r_iret C hr dX8_copied_75 (by decide) (by decide) ⟨by rw [hs, if_neg (by omega), if_neg (by omega), if_pos hw1, t3], rfl, rfl⟩
      ·
        refine r_tsout (q := 76) C dX8_copied_25 (by omega) (by omega) (by decide) ?_
        refine r_al0 (q := 77) C dX8_copied_76 rfl ?_
        refine r_getR (q := 80) C f_X8_36 dX8_copied_77 rfl rfl (by assumption) (by assumption) (by omega) ?_
        refine r_getI (q := 83) C f_X8_279 dX8_copied_80 rfl rfl (by assumption) (by omega) ?_
        exact r_iret C hr dX8_copied_83 (by decide) (by decide) ⟨by rw [hs, if_neg (by omega), if_neg (by omega), if_neg (by omega), t4], rfl, rfl⟩
    · refine r_bipush (q := 23) C dX8_copied_21 (by decide) rfl ?_
      refine r_iret C hr dX8_copied_23 (by decide) (by decide) ?_
      refine ⟨?_, rfl, rfl⟩
      obtain ⟨-, rfl⟩ := hTc.resolve_right (fun hc => by omega)
      rw [hs]
      rcases (show z = 0 ∨ z = 1 ∨ z = 2 ∨ z = 3 by omega) with rfl | rfl | rfl | rfl <;> rfl
  · refine r_ifne_f (q := 11) (q2 := 9) C (by decide) (by omega) dX8_copied_6 (by decide) rfl ?_
    refine r_iconst (q := 10) C dX8_copied_9 rfl ?_
    exact r_iret C hr dX8_copied_10 (by decide) (by decide) ⟨by rw [fCopied, if_neg br3], rfl, rfl⟩
set_option maxRecDepth 20000 in
set_option maxHeartbeats 8000000 in
theorem c_X8_faultPosition {T : oT} {σ : oM} {xC : Nat} (hX : oX T xC) : MS yX8_faultPosition cX8_faultPosition 1 (some FieldType.int) 0 0 0 0 [og xC] T σ (oP1 (oi (σ xC 8)) T σ) := by
  have hXc := hX
  obtain ⟨hX0, hXr0, hXr1, hXr2, hXr3, hXr4, hXr5, hXr6, hXn, hXs, hXy, hXq, hXk, hXb, hXbs, hXi, hXT⟩ := hXc
  refine o_met (by decide +kernel) (Nat.le_of_ble_eq_true rfl) (fun p l ee s m args below meth c G b C hr hn => ?_)
  have C : oCx p s m args meth c G b RX8 cX8_faultPosition 1 := C
  show oW p l ee ({ frames := 0, cells := 0, slots := 0, locals := 0 } : Room) s m args below meth c G b 1 0 0 (MQ below (o_Qc G b (oP1 (oi (σ xC 8)) T σ)) args s 0 0 (fun q => b ≤ q)) T σ 0 [some (og xC)] []
  refine r_al0 (q := 1) C dX8_faultPosition_0 rfl ?_
  refine r_getI (q := 4) C f_X8_58 dX8_faultPosition_1 rfl rfl (by assumption) (by omega) ?_
  exact r_iret C hr dX8_faultPosition_4 (by decide) (by decide) ⟨rfl, rfl, rfl⟩
set_option maxRecDepth 20000 in
set_option maxHeartbeats 8000000 in
theorem c_X8_failed {T : oT} {σ : oM} {xC : Nat} (hX : oX T xC) : MS yX8_failed cX8_failed 1 (some FieldType.int) 0 0 0 0 [og xC] T σ (oP1 (oi (σ xC 9)) T σ) := by
  have hXc := hX
  obtain ⟨hX0, hXr0, hXr1, hXr2, hXr3, hXr4, hXr5, hXr6, hXn, hXs, hXy, hXq, hXk, hXb, hXbs, hXi, hXT⟩ := hXc
  refine o_met (by decide +kernel) (Nat.le_of_ble_eq_true rfl) (fun p l ee s m args below meth c G b C hr hn => ?_)
  have C : oCx p s m args meth c G b RX8 cX8_failed 1 := C
  show oW p l ee ({ frames := 0, cells := 0, slots := 0, locals := 0 } : Room) s m args below meth c G b 1 0 0 (MQ below (o_Qc G b (oP1 (oi (σ xC 9)) T σ)) args s 0 0 (fun q => b ≤ q)) T σ 0 [some (og xC)] []
  refine r_al0 (q := 1) C dX8_failed_0 rfl ?_
  refine r_getI (q := 4) C f_X8_62 dX8_failed_1 rfl rfl (by assumption) (by omega) ?_
  exact r_iret C hr dX8_failed_4 (by decide) (by decide) ⟨rfl, rfl, rfl⟩
set_option maxRecDepth 20000 in
set_option maxHeartbeats 8000000 in
theorem c_X8_refusal {T : oT} {σ : oM} {xC : Nat} (hX : oX T xC) : MS yX8_refusal cX8_refusal 1 (some FieldType.int) 0 0 0 0 [og xC] T σ (oP1 (oi (σ xC 10)) T σ) := by
  have hXc := hX
  obtain ⟨hX0, hXr0, hXr1, hXr2, hXr3, hXr4, hXr5, hXr6, hXn, hXs, hXy, hXq, hXk, hXb, hXbs, hXi, hXT⟩ := hXc
  refine o_met (by decide +kernel) (Nat.le_of_ble_eq_true rfl) (fun p l ee s m args below meth c G b C hr hn => ?_)
  have C : oCx p s m args meth c G b RX8 cX8_refusal 1 := C
  show oW p l ee ({ frames := 0, cells := 0, slots := 0, locals := 0 } : Room) s m args below meth c G b 1 0 0 (MQ below (o_Qc G b (oP1 (oi (σ xC 10)) T σ)) args s 0 0 (fun q => b ≤ q)) T σ 0 [some (og xC)] []
  refine r_al0 (q := 1) C dX8_refusal_0 rfl ?_
  refine r_getI (q := 4) C f_X8_65 dX8_refusal_1 rfl rfl (by assumption) (by omega) ?_
  exact r_iret C hr dX8_refusal_4 (by decide) (by decide) ⟨rfl, rfl, rfl⟩
