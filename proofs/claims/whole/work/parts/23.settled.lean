/-- a settled call's answer, holdings and history -/
def fSet (F : Int × (Nat → Int)) (A : Nat → Int) (Lh : List (Nat → Int)) : Int × (Nat → Int) × List (Nat → Int) := (F.1, F.2, if F.1 < 0 ∧ F.1 ≠ -7 then Lh else hpush Lh A)
theorem fTempo_r {Bd : Int} {A : Nat → Int} {z v w : Int} (h : oI Bd A) : o_r (fTempo A z v w).1 := by
  unfold fTempo
  by_cases h1 : isBrF A z v
  · rw [if_pos h1]
    obtain ⟨eN, bN, rfl, rfl, g1, g2, g3, g4, g5⟩ := isBr_n h h1
    rw [Int.toNat_natCast, Int.toNat_natCast]
    have h3 := ((oI_b h g1).1.2.2.2.2 bN g3 g4).2.2.2.1
    split
    · show o_r (-2)
      omega
    · show o_r (if _ then _ else _)
      split <;> omega
  · rw [if_neg h1]
    show o_r (-1)
    omega
theorem fBow_r {Bd : Int} {A : Nat → Int} {z v u w : Int} (h : oI Bd A) : o_r (fBow A z v u w).1 := by
  unfold fBow
  by_cases h1 : isBrF A z u ∧ 0 ≤ v ∧ v ≤ 3
  · rw [if_pos h1]
    obtain ⟨eN, bN, rfl, rfl, g1, g2, g3, g4, g5⟩ := isBr_n h h1.1
    rw [Int.toNat_natCast, Int.toNat_natCast]
    have h3 := ((oI_b h g1).1.2.2.2.2 bN g3 g4).2.2.2.2 v.toNat (by omega)
    split
    · show o_r (A _)
      omega
    · show o_r (-2)
      omega
  · rw [if_neg h1]
    show o_r (-1)
    omega
set_option maxRecDepth 20000 in
set_option maxHeartbeats 8000000 in
theorem c_X8_tempo {T : oT} {σ : oM} {xC : Nat} {A : Nat → Int} {Bd : Int} (hX : oX T xC) (hR : oHR σ (xC + 1) A) (hI : oI Bd A) {Lh : List (Nat → Int)} (hH : oHis σ (xC + 209) Lh) (hb : ∀ B ∈ Lh, nEd B ≤ 6 ∧ nLn B ≤ 20) {z v w : Int} (hz : o_r z) (hv : o_r v) (hw : o_r w) : MS yX8_tempo cX8_tempo 4 (some FieldType.int) 5 0 0 117 [og xC, oi z, oi v, oi w] T σ (oPs (fun zx σ2 => zx = (fSet (fTempo A z v w) A Lh).1 ∧ oCk σ σ2 xC (fSet (fTempo A z v w) A Lh).2.1 (fSet (fTempo A z v w) A Lh).2.2 (σ xC 10)) T) := by
  have hXc := hX
  obtain ⟨hX0, hXr0, hXr1, hXr2, hXr3, hXr4, hXr5, hXr6, hXn, hXs, hXy, hXq, hXk, hXb, hXbs, hXi, hXT⟩ := hXc
  have hHc := hXn
  obtain ⟨hH0, hH1, hH2, hH3, hH4, hH6, hG1, hG80, hG81, hG82, hG83, hEs, hLs, hHT⟩ := hHc
  have hRc := hR
  obtain ⟨hR0, hR5, hR7, hRw8, hRp, hRl, hRe⟩ := hRc
  have hIn := oI_n hI
  have hIc := hI
  obtain ⟨hI1, hI2, hI3, hI4, hI5, hI6, hI7, hI8, -⟩ := hIc
  have hY0 := hXy.1
  have hHc2 := hH
  obtain ⟨on, sn, ho, ho9, hsz, hlen, hs8, hrow⟩ := hHc2
  refine o_met (by decide +kernel) (Nat.le_of_ble_eq_true rfl) (fun p l ee s m args below meth c G b C hr hn => ?_)
  have C : oCx p s m args meth c G b RX8 cX8_tempo 4 := C
  show oW p l ee ({ frames := 5, cells := 0, slots := 0, locals := 117 } : Room) s m args below meth c G b 4 0 0 (MQ below (o_Qc G b (oPs (fun zx σ2 => zx = (fSet (fTempo A z v w) A Lh).1 ∧ oCk σ σ2 xC (fSet (fTempo A z v w) A Lh).2.1 (fSet (fTempo A z v w) A Lh).2.2 (σ xC 10)) T)) args s 0 0 (fun q => b ≤ q)) T σ 0 [some (og xC), some (oi z), some (oi v), some (oi w)] []
  refine r_al0 (q := 1) C dX8_tempo_0 rfl ?_
  refine r_getR (q := 4) C f_X8_22 dX8_tempo_1 rfl rfl (by assumption) (by assumption) (by omega) ?_
  refine r_al0 (q := 5) C dX8_tempo_4 rfl ?_
  refine r_getR (q := 8) C f_X8_10 dX8_tempo_5 rfl rfl (by assumption) (by assumption) (by omega) ?_
  refine r_callVv (q := 11) C (c_X5_prepare hXy ho ho9 hsz hs8 hXn (by omega) hR0 hIn.2.2.1 hR5 hIn.2.2.2 (fun j hj => ⟨nBr A j, (oHR_e hR hj).2.2, (oI_b hI hj).2.2.2⟩)) m_X8_94 (by assumption) (by omega) dX8_tempo_8 rfl rfl (by decide) (by decide) (Nat.le_of_ble_eq_true rfl) (fun σ1 hk1 => ?_)
  have hf1 := hk1.2.2.2.2.2.2.2
  have hR1 := oHR_fr hR ⟨hIn.2.2.1, hIn.2.2.2⟩ (fun x h1 h2 => hf1 x (by omega))
  refine r_al0 (q := 12) C dX8_tempo_11 rfl ?_
  refine r_al0 (q := 13) C dX8_tempo_12 rfl ?_
  refine r_il1 (q := 14) C dX8_tempo_13 rfl ?_
  refine r_il2 (q := 15) C dX8_tempo_14 rfl ?_
  refine r_il3 (q := 16) C dX8_tempo_15 rfl ?_
  refine r_callVs (q := 19) C (c_X8_setTempo hX hR1 hI hz hv hw) m_X8_211 (by assumption) (by omega) dX8_tempo_16 rfl rfl (by decide) (by decide) (Nat.le_of_ble_eq_true rfl) (fun z2 σ2 hσ2 => ?_)
  obtain ⟨rfl, hch⟩ := hσ2
  have hzr : o_r (fTempo A z v w).1 := fTempo_r hI
  have hJ : oI Bd (fTempo A z v w).2 := fTempo_I hI
  have hy2 : σ2 (xC + 209) = σ (xC + 209) := (hch.2.1 _ (by omega) (by omega)).trans (hf1 _ (by omega))
  refine r_callVs (q := 22) C (c_X8_settle (z := (fTempo A z v w).1) hX hzr (by rw [hy2]; exact ho) ho9 (by rw [hy2]; exact hsz) hs8) m_X8_100 (by assumption) (by omega) dX8_tempo_19 rfl rfl (by decide) (by decide) (Nat.le_of_ble_eq_true rfl) (fun z3 σ3 hσ3 => ?_)
  refine r_iret C hr dX8_tempo_22 (by decide) (by decide) ?_
  obtain ⟨rfl, h3⟩ := hσ3
  have hst := settle_of hR ⟨hIn.2.2.1, hIn.2.2.2⟩ ⟨(oI_n hJ).2.2.1, (oI_n hJ).2.2.2⟩ ho ho9 hsz hlen hs8 hrow hb hk1 hch h3
  rw [hf1 xC (by omega)] at hst
  exact ⟨_, rfl, rfl, rfl, hst⟩
set_option maxRecDepth 20000 in
set_option maxHeartbeats 8000000 in
theorem c_X8_bow {T : oT} {σ : oM} {xC : Nat} {A : Nat → Int} {Bd : Int} (hX : oX T xC) (hR : oHR σ (xC + 1) A) (hI : oI Bd A) {Lh : List (Nat → Int)} (hH : oHis σ (xC + 209) Lh) (hb : ∀ B ∈ Lh, nEd B ≤ 6 ∧ nLn B ≤ 20) {z v u w : Int} (hz : o_r z) (hv : o_r v) (hu : o_r u) (hw : o_r w) : MS yX8_bow cX8_bow 5 (some FieldType.int) 5 0 0 117 [og xC, oi z, oi v, oi u, oi w] T σ (oPs (fun zx σ2 => zx = (fSet (fBow A z v u w) A Lh).1 ∧ oCk σ σ2 xC (fSet (fBow A z v u w) A Lh).2.1 (fSet (fBow A z v u w) A Lh).2.2 (σ xC 10)) T) := by
  have hXc := hX
  obtain ⟨hX0, hXr0, hXr1, hXr2, hXr3, hXr4, hXr5, hXr6, hXn, hXs, hXy, hXq, hXk, hXb, hXbs, hXi, hXT⟩ := hXc
  have hHc := hXn
  obtain ⟨hH0, hH1, hH2, hH3, hH4, hH6, hG1, hG80, hG81, hG82, hG83, hEs, hLs, hHT⟩ := hHc
  have hRc := hR
  obtain ⟨hR0, hR5, hR7, hRw8, hRp, hRl, hRe⟩ := hRc
  have hIn := oI_n hI
  have hIc := hI
  obtain ⟨hI1, hI2, hI3, hI4, hI5, hI6, hI7, hI8, -⟩ := hIc
  have hY0 := hXy.1
  have hHc2 := hH
  obtain ⟨on, sn, ho, ho9, hsz, hlen, hs8, hrow⟩ := hHc2
  refine o_met (by decide +kernel) (Nat.le_of_ble_eq_true rfl) (fun p l ee s m args below meth c G b C hr hn => ?_)
  have C : oCx p s m args meth c G b RX8 cX8_bow 5 := C
  show oW p l ee ({ frames := 5, cells := 0, slots := 0, locals := 117 } : Room) s m args below meth c G b 5 0 0 (MQ below (o_Qc G b (oPs (fun zx σ2 => zx = (fSet (fBow A z v u w) A Lh).1 ∧ oCk σ σ2 xC (fSet (fBow A z v u w) A Lh).2.1 (fSet (fBow A z v u w) A Lh).2.2 (σ xC 10)) T)) args s 0 0 (fun q => b ≤ q)) T σ 0 [some (og xC), some (oi z), some (oi v), some (oi u), some (oi w)] []
  refine r_al0 (q := 1) C dX8_bow_0 rfl ?_
  refine r_getR (q := 4) C f_X8_22 dX8_bow_1 rfl rfl (by assumption) (by assumption) (by omega) ?_
  refine r_al0 (q := 5) C dX8_bow_4 rfl ?_
  refine r_getR (q := 8) C f_X8_10 dX8_bow_5 rfl rfl (by assumption) (by assumption) (by omega) ?_
  refine r_callVv (q := 11) C (c_X5_prepare hXy ho ho9 hsz hs8 hXn (by omega) hR0 hIn.2.2.1 hR5 hIn.2.2.2 (fun j hj => ⟨nBr A j, (oHR_e hR hj).2.2, (oI_b hI hj).2.2.2⟩)) m_X8_94 (by assumption) (by omega) dX8_bow_8 rfl rfl (by decide) (by decide) (Nat.le_of_ble_eq_true rfl) (fun σ1 hk1 => ?_)
  have hf1 := hk1.2.2.2.2.2.2.2
  have hR1 := oHR_fr hR ⟨hIn.2.2.1, hIn.2.2.2⟩ (fun x h1 h2 => hf1 x (by omega))
  refine r_al0 (q := 12) C dX8_bow_11 rfl ?_
  refine r_al0 (q := 13) C dX8_bow_12 rfl ?_
  refine r_il1 (q := 14) C dX8_bow_13 rfl ?_
  refine r_il2 (q := 15) C dX8_bow_14 rfl ?_
  refine r_il3 (q := 16) C dX8_bow_15 rfl ?_
  refine r_il4 (q := 18) C dX8_bow_16 rfl ?_
  refine r_callVs (q := 21) C (c_X8_setBowing hX hR1 hI hz hv hu hw) m_X8_253 (by assumption) (by omega) dX8_bow_18 rfl rfl (by decide) (by decide) (Nat.le_of_ble_eq_true rfl) (fun z2 σ2 hσ2 => ?_)
  obtain ⟨rfl, hch⟩ := hσ2
  have hzr : o_r (fBow A z v u w).1 := fBow_r hI
  have hJ : oI Bd (fBow A z v u w).2 := fBow_I hI
  have hy2 : σ2 (xC + 209) = σ (xC + 209) := (hch.2.1 _ (by omega) (by omega)).trans (hf1 _ (by omega))
  refine r_callVs (q := 24) C (c_X8_settle (z := (fBow A z v u w).1) hX hzr (by rw [hy2]; exact ho) ho9 (by rw [hy2]; exact hsz) hs8) m_X8_100 (by assumption) (by omega) dX8_bow_21 rfl rfl (by decide) (by decide) (Nat.le_of_ble_eq_true rfl) (fun z3 σ3 hσ3 => ?_)
  refine r_iret C hr dX8_bow_24 (by decide) (by decide) ?_
  obtain ⟨rfl, h3⟩ := hσ3
  have hst := settle_of hR ⟨hIn.2.2.1, hIn.2.2.2⟩ ⟨(oI_n hJ).2.2.1, (oI_n hJ).2.2.2⟩ ho ho9 hsz hlen hs8 hrow hb hk1 hch h3
  rw [hf1 xC (by omega)] at hst
  exact ⟨_, rfl, rfl, rfl, hst⟩
