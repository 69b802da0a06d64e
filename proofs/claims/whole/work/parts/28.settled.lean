/-- a settled call's answer, holdings, history and latest reason -/
def fSet3 (F : Int × (Nat → Int) × Int) (A : Nat → Int) (Lh : List (Nat → Int)) : Int × (Nat → Int) × List (Nat → Int) × Int := (F.1, F.2.1, (if F.1 < 0 ∧ F.1 ≠ -7 then Lh else hpush Lh A), F.2.2)
theorem fRew_r {Bd : Int} {A : Nat → Int} {rf z v w : Int} (h : oI Bd A) : o_r (fRew A rf z v w).1 := by
  unfold fRew
  by_cases h1 : isBrF A z v
  · rw [if_pos h1]
    obtain ⟨eN, bN, rfl, rfl, g1, g2, g3, g4, g5⟩ := isBr_n h h1
    rw [Int.toNat_natCast]
    have hw0 := (oI_b h g1).1.1
    obtain ⟨wN, hwn⟩ : ∃ wN : Nat, A (177 + 813 * eN) = (wN : Int) := ⟨(A (177 + 813 * eN)).toNat, by omega⟩
    have h5 := (h.2.2.2.2.1 wN (by omega)).2
    have h0 := h.1
    rw [hwn, Int.toNat_natCast]
    split
    · split
      · show o_r (-5)
        omega
      · show o_r (A _ + 1)
        omega
    · show o_r (-2)
      omega
  · rw [if_neg h1]
    show o_r (-1)
    omega
set_option maxRecDepth 20000 in
set_option maxHeartbeats 8000000 in
theorem c_X8_cut {T : oT} {σ : oM} {xC : Nat} {A : Nat → Int} {Bd : Int} (hX : oX T xC) (hR : oHR σ (xC + 1) A) (hI : oI Bd A) (hBd : Bd ≤ 99990000) {Lh : List (Nat → Int)} (hH : oHis σ (xC + 209) Lh) (hb : ∀ B ∈ Lh, nEd B ≤ 6 ∧ nLn B ≤ 20) {z v w : Int} (hz : o_r z) (hv : o_r v) (hw : o_r w) : MS yX8_cut cX8_cut 4 (some FieldType.int) 5 0 0 117 [og xC, oi z, oi v, oi w] T σ (oPs (fun zx σ2 => zx = (fSet3 (fCut A (σ xC 10) z v w) A Lh).1 ∧ oCk σ σ2 xC (fSet3 (fCut A (σ xC 10) z v w) A Lh).2.1 (fSet3 (fCut A (σ xC 10) z v w) A Lh).2.2.1 (fSet3 (fCut A (σ xC 10) z v w) A Lh).2.2.2) T) := by
  have hXc := hX
  obtain ⟨hX0, hXr0, hXr1, hXr2, hXr3, hXr4, hXr5, hXr6, hXn, hXs, hXy, hXq, hXk, hXb, hXbs, hXi, hXT⟩ := hXc
  have hHc := hXn
  obtain ⟨hH0, hH1, hH2, hH3, hH4, hH6, hG1, hG80, hG81, hG82, hG83, hEs, hLs, hHT⟩ := hHc
  have hRc := hR
  obtain ⟨hR0, hR5, hR7, hRw8, hRp, hRl, hRe⟩ := hRc
  have hIn := oI_n hI
  have hIc := hI
  obtain ⟨hI1, hI2, hI3, hI4, hI5, hI6, hI7, hI8, -⟩ := hIc
  have hY0 := hXy.1
  have hHc2 := hH
  obtain ⟨on, sn, ho, ho9, hsz, hlen, hs8, hrow⟩ := hHc2
  refine o_met (by decide +kernel) (Nat.le_of_ble_eq_true rfl) (fun p l ee s m args below meth c G b C hr hn => ?_)
  have C : oCx p s m args meth c G b RX8 cX8_cut 4 := C
  show oW p l ee ({ frames := 5, cells := 0, slots := 0, locals := 117 } : Room) s m args below meth c G b 4 0 0 (MQ below (o_Qc G b (oPs (fun zx σ2 => zx = (fSet3 (fCut A (σ xC 10) z v w) A Lh).1 ∧ oCk σ σ2 xC (fSet3 (fCut A (σ xC 10) z v w) A Lh).2.1 (fSet3 (fCut A (σ xC 10) z v w) A Lh).2.2.1 (fSet3 (fCut A (σ xC 10) z v w) A Lh).2.2.2) T)) args s 0 0 (fun q => b ≤ q)) T σ 0 [some (og xC), some (oi z), some (oi v), some (oi w)] []
  refine r_al0 (q := 1) C dX8_cut_0 rfl ?_
  refine r_getR (q := 4) C f_X8_22 dX8_cut_1 rfl rfl (by assumption) (by assumption) (by omega) ?_
  refine r_al0 (q := 5) C dX8_cut_4 rfl ?_
  refine r_getR (q := 8) C f_X8_10 dX8_cut_5 rfl rfl (by assumption) (by assumption) (by omega) ?_
  refine r_callVv (q := 11) C (c_X5_prepare hXy ho ho9 hsz hs8 hXn (by omega) hR0 hIn.2.2.1 hR5 hIn.2.2.2 (fun j hj => ⟨nBr A j, (oHR_e hR hj).2.2, (oI_b hI hj).2.2.2⟩)) m_X8_94 (by assumption) (by omega) dX8_cut_8 rfl rfl (by decide) (by decide) (Nat.le_of_ble_eq_true rfl) (fun σ1 hk1 => ?_)
  have hf1 := hk1.2.2.2.2.2.2.2
  have hR1 := oHR_fr hR ⟨hIn.2.2.1, hIn.2.2.2⟩ (fun x h1 h2 => hf1 x (by omega))
  have e10 : σ1 xC 10 = σ xC 10 := by rw [hf1 xC (by omega)]
  refine r_al0 (q := 12) C dX8_cut_11 rfl ?_
  refine r_al0 (q := 13) C dX8_cut_12 rfl ?_
  refine r_il1 (q := 14) C dX8_cut_13 rfl ?_
  refine r_il2 (q := 15) C dX8_cut_14 rfl ?_
  refine r_il3 (q := 16) C dX8_cut_15 rfl ?_
  refine r_callVs (q := 19) C (c_X8_cutBars hX hR1 hI hz hv hw) m_X8_97 (by assumption) (by omega) dX8_cut_16 rfl rfl (by decide) (by decide) (Nat.le_of_ble_eq_true rfl) (fun z2 σ2 hσ2 => ?_)
  obtain ⟨rfl, hch⟩ := hσ2
  rw [e10] at hch ⊢
  have hzr : o_r (fCut A (σ xC 10) z v w).1 := fCut_r hI
  have hJ := fCut_I (rf := σ xC 10) (z := z) (v := v) (w := w) hI
  have hy2 : σ2 (xC + 209) = σ (xC + 209) := (hch.2.1 _ (by omega) (by omega)).trans (hf1 _ (by omega))
  refine r_callVs (q := 22) C (c_X8_settle (z := (fCut A (σ xC 10) z v w).1) hX hzr (by rw [hy2]; exact ho) ho9 (by rw [hy2]; exact hsz) hs8) m_X8_100 (by assumption) (by omega) dX8_cut_19 rfl rfl (by decide) (by decide) (Nat.le_of_ble_eq_true rfl) (fun z3 σ3 hσ3 => ?_)
  refine r_iret C hr dX8_cut_22 (by decide) (by decide) ?_
  obtain ⟨rfl, h3⟩ := hσ3
  have hst := settle_of hR ⟨hIn.2.2.1, hIn.2.2.2⟩ ⟨(oI_n hJ).2.2.1, (oI_n hJ).2.2.2⟩ ho ho9 hsz hlen hs8 hrow hb hk1 hch h3
  exact ⟨_, rfl, rfl, rfl, hst⟩
set_option maxRecDepth 20000 in
set_option maxHeartbeats 8000000 in
theorem c_X8_insert {T : oT} {σ : oM} {xC : Nat} {A : Nat → Int} {Bd : Int} (hX : oX T xC) (hR : oHR σ (xC + 1) A) (hI : oI Bd A) (hBd : Bd ≤ 99990000) {Lh : List (Nat → Int)} (hH : oHis σ (xC + 209) Lh) (hb : ∀ B ∈ Lh, nEd B ≤ 6 ∧ nLn B ≤ 20) {z v w u : Int} (hz : o_r z) (hv : o_r v) (hw : o_r w) (hu : o_r u) : MS yX8_insert cX8_insert 5 (some FieldType.int) 5 0 0 117 [og xC, oi z, oi v, oi w, oi u] T σ (oPs (fun zx σ2 => zx = (fSet3 (fIns A (σ xC 10) z v w u) A Lh).1 ∧ oCk σ σ2 xC (fSet3 (fIns A (σ xC 10) z v w u) A Lh).2.1 (fSet3 (fIns A (σ xC 10) z v w u) A Lh).2.2.1 (fSet3 (fIns A (σ xC 10) z v w u) A Lh).2.2.2) T) := by
  have hXc := hX
  obtain ⟨hX0, hXr0, hXr1, hXr2, hXr3, hXr4, hXr5, hXr6, hXn, hXs, hXy, hXq, hXk, hXb, hXbs, hXi, hXT⟩ := hXc
  have hHc := hXn
  obtain ⟨hH0, hH1, hH2, hH3, hH4, hH6, hG1, hG80, hG81, hG82, hG83, hEs, hLs, hHT⟩ := hHc
  have hRc := hR
  obtain ⟨hR0, hR5, hR7, hRw8, hRp, hRl, hRe⟩ := hRc
  have hIn := oI_n hI
  have hIc := hI
  obtain ⟨hI1, hI2, hI3, hI4, hI5, hI6, hI7, hI8, -⟩ := hIc
  have hY0 := hXy.1
  have hHc2 := hH
  obtain ⟨on, sn, ho, ho9, hsz, hlen, hs8, hrow⟩ := hHc2
  refine o_met (by decide +kernel) (Nat.le_of_ble_eq_true rfl) (fun p l ee s m args below meth c G b C hr hn => ?_)
  have C : oCx p s m args meth c G b RX8 cX8_insert 5 := C
  show oW p l ee ({ frames := 5, cells := 0, slots := 0, locals := 117 } : Room) s m args below meth c G b 5 0 0 (MQ below (o_Qc G b (oPs (fun zx σ2 => zx = (fSet3 (fIns A (σ xC 10) z v w u) A Lh).1 ∧ oCk σ σ2 xC (fSet3 (fIns A (σ xC 10) z v w u) A Lh).2.1 (fSet3 (fIns A (σ xC 10) z v w u) A Lh).2.2.1 (fSet3 (fIns A (σ xC 10) z v w u) A Lh).2.2.2) T)) args s 0 0 (fun q => b ≤ q)) T σ 0 [some (og xC), some (oi z), some (oi v), some (oi w), some (oi u)] []
  refine r_al0 (q := 1) C dX8_insert_0 rfl ?_
  refine r_getR (q := 4) C f_X8_22 dX8_insert_1 rfl rfl (by assumption) (by assumption) (by omega) ?_
  refine r_al0 (q := 5) C dX8_insert_4 rfl ?_
  refine r_getR (q := 8) C f_X8_10 dX8_insert_5 rfl rfl (by assumption) (by assumption) (by omega) ?_
  refine r_callVv (q := 11) C (c_X5_prepare hXy ho ho9 hsz hs8 hXn (by omega) hR0 hIn.2.2.1 hR5 hIn.2.2.2 (fun j hj => ⟨nBr A j, (oHR_e hR hj).2.2, (oI_b hI hj).2.2.2⟩)) m_X8_94 (by assumption) (by omega) dX8_insert_8 rfl rfl (by decide) (by decide) (Nat.le_of_ble_eq_true rfl) (fun σ1 hk1 => ?_)
  have hf1 := hk1.2.2.2.2.2.2.2
  have hR1 := oHR_fr hR ⟨hIn.2.2.1, hIn.2.2.2⟩ (fun x h1 h2 => hf1 x (by omega))
  have e10 : σ1 xC 10 = σ xC 10 := by rw [hf1 xC (by omega)]
  refine r_al0 (q := 12) C dX8_insert_11 rfl ?_
  refine r_al0 (q := 13) C dX8_insert_12 rfl ?_
  refine r_il1 (q := 14) C dX8_insert_13 rfl ?_
  refine r_il2 (q := 15) C dX8_insert_14 rfl ?_
  refine r_il3 (q := 16) C dX8_insert_15 rfl ?_
  refine r_il4 (q := 18) C dX8_insert_16 rfl ?_
  refine r_callVs (q := 21) C (c_X8_insertBars hX hR1 hI hz hv hw hu) m_X8_127 (by assumption) (by omega) dX8_insert_18 rfl rfl (by decide) (by decide) (Nat.le_of_ble_eq_true rfl) (fun z2 σ2 hσ2 => ?_)
  obtain ⟨rfl, hch⟩ := hσ2
  rw [e10] at hch ⊢
  have hzr : o_r (fIns A (σ xC 10) z v w u).1 := fIns_r hI
  have hJ := fIns_I (rf := σ xC 10) (z := z) (v := v) (w := w) (u := u) hI (by omega)
  have hy2 : σ2 (xC + 209) = σ (xC + 209) := (hch.2.1 _ (by omega) (by omega)).trans (hf1 _ (by omega))
  refine r_callVs (q := 24) C (c_X8_settle (z := (fIns A (σ xC 10) z v w u).1) hX hzr (by rw [hy2]; exact ho) ho9 (by rw [hy2]; exact hsz) hs8) m_X8_100 (by assumption) (by omega) dX8_insert_21 rfl rfl (by decide) (by decide) (Nat.le_of_ble_eq_true rfl) (fun z3 σ3 hσ3 => ?_)
  refine r_iret C hr dX8_insert_24 (by decide) (by decide) ?_
  obtain ⟨rfl, h3⟩ := hσ3
  have hst := settle_of hR ⟨hIn.2.2.1, hIn.2.2.2⟩ ⟨(oI_n hJ).2.2.1, (oI_n hJ).2.2.2⟩ ho ho9 hsz hlen hs8 hrow hb hk1 hch h3
  exact ⟨_, rfl, rfl, rfl, hst⟩
set_option maxRecDepth 20000 in
set_option maxHeartbeats 8000000 in
theorem c_X8_rework {T : oT} {σ : oM} {xC : Nat} {A : Nat → Int} {Bd : Int} (hX : oX T xC) (hR : oHR σ (xC + 1) A) (hI : oI Bd A) (hBd : Bd ≤ 99990000) {Lh : List (Nat → Int)} (hH : oHis σ (xC + 209) Lh) (hb : ∀ B ∈ Lh, nEd B ≤ 6 ∧ nLn B ≤ 20) {z v w : Int} (hz : o_r z) (hv : o_r v) (hw : o_r w) : MS yX8_rework cX8_rework 4 (some FieldType.int) 5 0 0 117 [og xC, oi z, oi v, oi w] T σ (oPs (fun zx σ2 => zx = (fSet3 (fRew A (σ xC 10) z v w) A Lh).1 ∧ oCk σ σ2 xC (fSet3 (fRew A (σ xC 10) z v w) A Lh).2.1 (fSet3 (fRew A (σ xC 10) z v w) A Lh).2.2.1 (fSet3 (fRew A (σ xC 10) z v w) A Lh).2.2.2) T) := by
  have hXc := hX
  obtain ⟨hX0, hXr0, hXr1, hXr2, hXr3, hXr4, hXr5, hXr6, hXn, hXs, hXy, hXq, hXk, hXb, hXbs, hXi, hXT⟩ := hXc
  have hHc := hXn
  obtain ⟨hH0, hH1, hH2, hH3, hH4, hH6, hG1, hG80, hG81, hG82, hG83, hEs, hLs, hHT⟩ := hHc
  have hRc := hR
  obtain ⟨hR0, hR5, hR7, hRw8, hRp, hRl, hRe⟩ := hRc
  have hIn := oI_n hI
  have hIc := hI
  obtain ⟨hI1, hI2, hI3, hI4, hI5, hI6, hI7, hI8, -⟩ := hIc
  have hY0 := hXy.1
  have hHc2 := hH
  obtain ⟨on, sn, ho, ho9, hsz, hlen, hs8, hrow⟩ := hHc2
  refine o_met (by decide +kernel) (Nat.le_of_ble_eq_true rfl) (fun p l ee s m args below meth c G b C hr hn => ?_)
  have C : oCx p s m args meth c G b RX8 cX8_rework 4 := C
  show oW p l ee ({ frames := 5, cells := 0, slots := 0, locals := 117 } : Room) s m args below meth c G b 4 0 0 (MQ below (o_Qc G b (oPs (fun zx σ2 => zx = (fSet3 (fRew A (σ xC 10) z v w) A Lh).1 ∧ oCk σ σ2 xC (fSet3 (fRew A (σ xC 10) z v w) A Lh).2.1 (fSet3 (fRew A (σ xC 10) z v w) A Lh).2.2.1 (fSet3 (fRew A (σ xC 10) z v w) A Lh).2.2.2) T)) args s 0 0 (fun q => b ≤ q)) T σ 0 [some (og xC), some (oi z), some (oi v), some (oi w)] []
  refine r_al0 (q := 1) C dX8_rework_0 rfl ?_
  refine r_getR (q := 4) C f_X8_22 dX8_rework_1 rfl rfl (by assumption) (by assumption) (by omega) ?_
  refine r_al0 (q := 5) C dX8_rework_4 rfl ?_
  refine r_getR (q := 8) C f_X8_10 dX8_rework_5 rfl rfl (by assumption) (by assumption) (by omega) ?_
  refine r_callVv (q := 11) C (c_X5_prepare hXy ho ho9 hsz hs8 hXn (by omega) hR0 hIn.2.2.1 hR5 hIn.2.2.2 (fun j hj => ⟨nBr A j, (oHR_e hR hj).2.2, (oI_b hI hj).2.2.2⟩)) m_X8_94 (by assumption) (by omega) dX8_rework_8 rfl rfl (by decide) (by decide) (Nat.le_of_ble_eq_true rfl) (fun σ1 hk1 => ?_)
  have hf1 := hk1.2.2.2.2.2.2.2
  have hR1 := oHR_fr hR ⟨hIn.2.2.1, hIn.2.2.2⟩ (fun x h1 h2 => hf1 x (by omega))
  have e10 : σ1 xC 10 = σ xC 10 := by rw [hf1 xC (by omega)]
  refine r_al0 (q := 12) C dX8_rework_11 rfl ?_
  refine r_al0 (q := 13) C dX8_rework_12 rfl ?_
  refine r_il1 (q := 14) C dX8_rework_13 rfl ?_
  refine r_il2 (q := 15) C dX8_rework_14 rfl ?_
  refine r_il3 (q := 16) C dX8_rework_15 rfl ?_
  refine r_callVs (q := 19) C (c_X8_reworkBar hX hR1 hI (by omega) hz hv hw) m_X8_142 (by assumption) (by omega) dX8_rework_16 rfl rfl (by decide) (by decide) (Nat.le_of_ble_eq_true rfl) (fun z2 σ2 hσ2 => ?_)
  obtain ⟨rfl, hch⟩ := hσ2
  rw [e10] at hch ⊢
  have hzr : o_r (fRew A (σ xC 10) z v w).1 := fRew_r hI
  have hJ := fRew_I (rf := σ xC 10) (z := z) (v := v) (w := w) hI (by omega)
  have hy2 : σ2 (xC + 209) = σ (xC + 209) := (hch.2.1 _ (by omega) (by omega)).trans (hf1 _ (by omega))
  refine r_callVs (q := 22) C (c_X8_settle (z := (fRew A (σ xC 10) z v w).1) hX hzr (by rw [hy2]; exact ho) ho9 (by rw [hy2]; exact hsz) hs8) m_X8_100 (by assumption) (by omega) dX8_rework_19 rfl rfl (by decide) (by decide) (Nat.le_of_ble_eq_true rfl) (fun z3 σ3 hσ3 => ?_)
  refine r_iret C hr dX8_rework_22 (by decide) (by decide) ?_
  obtain ⟨rfl, h3⟩ := hσ3
  have hst := settle_of hR ⟨hIn.2.2.1, hIn.2.2.2⟩ ⟨(oI_n hJ).2.2.1, (oI_n hJ).2.2.2⟩ ho ho9 hsz hlen hs8 hrow hb hk1 hch h3
  exact ⟨_, rfl, rfl, rfl, hst⟩
set_option maxRecDepth 20000 in
set_option maxHeartbeats 8000000 in
theorem c_X8_lend {T : oT} {σ : oM} {xC : Nat} {A : Nat → Int} {Bd : Int} (hX : oX T xC) (hR : oHR σ (xC + 1) A) (hI : oI Bd A) (hBd : Bd ≤ 99990000) {Lh : List (Nat → Int)} (hH : oHis σ (xC + 209) Lh) (hb : ∀ B ∈ Lh, nEd B ≤ 6 ∧ nLn B ≤ 20) {z v w u d : Int} (hz : o_r z) (hv : o_r v) (hw : o_r w) (hu : o_r u) (hd : o_r d) : MS yX8_lend cX8_lend 6 (some FieldType.int) 5 0 0 117 [og xC, oi z, oi v, oi w, oi u, oi d] T σ (oPs (fun zx σ2 => zx = (fSet3 (fLend A (σ xC 10) z v w u d) A Lh).1 ∧ oCk σ σ2 xC (fSet3 (fLend A (σ xC 10) z v w u d) A Lh).2.1 (fSet3 (fLend A (σ xC 10) z v w u d) A Lh).2.2.1 (fSet3 (fLend A (σ xC 10) z v w u d) A Lh).2.2.2) T) := by
  have hXc := hX
  obtain ⟨hX0, hXr0, hXr1, hXr2, hXr3, hXr4, hXr5, hXr6, hXn, hXs, hXy, hXq, hXk, hXb, hXbs, hXi, hXT⟩ := hXc
  have hHc := hXn
  obtain ⟨hH0, hH1, hH2, hH3, hH4, hH6, hG1, hG80, hG81, hG82, hG83, hEs, hLs, hHT⟩ := hHc
  have hRc := hR
  obtain ⟨hR0, hR5, hR7, hRw8, hRp, hRl, hRe⟩ := hRc
  have hIn := oI_n hI
  have hIc := hI
  obtain ⟨hI1, hI2, hI3, hI4, hI5, hI6, hI7, hI8, -⟩ := hIc
  have hY0 := hXy.1
  have hHc2 := hH
  obtain ⟨on, sn, ho, ho9, hsz, hlen, hs8, hrow⟩ := hHc2
  refine o_met (by decide +kernel) (Nat.le_of_ble_eq_true rfl) (fun p l ee s m args below meth c G b C hr hn => ?_)
  have C : oCx p s m args meth c G b RX8 cX8_lend 6 := C
  show oW p l ee ({ frames := 5, cells := 0, slots := 0, locals := 117 } : Room) s m args below meth c G b 6 0 0 (MQ below (o_Qc G b (oPs (fun zx σ2 => zx = (fSet3 (fLend A (σ xC 10) z v w u d) A Lh).1 ∧ oCk σ σ2 xC (fSet3 (fLend A (σ xC 10) z v w u d) A Lh).2.1 (fSet3 (fLend A (σ xC 10) z v w u d) A Lh).2.2.1 (fSet3 (fLend A (σ xC 10) z v w u d) A Lh).2.2.2) T)) args s 0 0 (fun q => b ≤ q)) T σ 0 [some (og xC), some (oi z), some (oi v), some (oi w), some (oi u), some (oi d)] []
  refine r_al0 (q := 1) C dX8_lend_0 rfl ?_
  refine r_getR (q := 4) C f_X8_22 dX8_lend_1 rfl rfl (by assumption) (by assumption) (by omega) ?_
  refine r_al0 (q := 5) C dX8_lend_4 rfl ?_
  refine r_getR (q := 8) C f_X8_10 dX8_lend_5 rfl rfl (by assumption) (by assumption) (by omega) ?_
  refine r_callVv (q := 11) C (c_X5_prepare hXy ho ho9 hsz hs8 hXn (by omega) hR0 hIn.2.2.1 hR5 hIn.2.2.2 (fun j hj => ⟨nBr A j, (oHR_e hR hj).2.2, (oI_b hI hj).2.2.2⟩)) m_X8_94 (by assumption) (by omega) dX8_lend_8 rfl rfl (by decide) (by decide) (Nat.le_of_ble_eq_true rfl) (fun σ1 hk1 => ?_)
  have hf1 := hk1.2.2.2.2.2.2.2
  have hR1 := oHR_fr hR ⟨hIn.2.2.1, hIn.2.2.2⟩ (fun x h1 h2 => hf1 x (by omega))
  have e10 : σ1 xC 10 = σ xC 10 := by rw [hf1 xC (by omega)]
  refine r_al0 (q := 12) C dX8_lend_11 rfl ?_
  refine r_al0 (q := 13) C dX8_lend_12 rfl ?_
  refine r_il1 (q := 14) C dX8_lend_13 rfl ?_
  refine r_il2 (q := 15) C dX8_lend_14 rfl ?_
  refine r_il3 (q := 16) C dX8_lend_15 rfl ?_
  refine r_il4 (q := 18) C dX8_lend_16 rfl ?_
  refine r_il5 (q := 20) C dX8_lend_18 rfl ?_
  refine r_callVs (q := 23) C (c_X8_lendPart hX hR1 hI hz hv hw hu hd) m_X8_282 (by assumption) (by omega) dX8_lend_20 rfl rfl (by decide) (by decide) (Nat.le_of_ble_eq_true rfl) (fun z2 σ2 hσ2 => ?_)
  obtain ⟨rfl, hch⟩ := hσ2
  rw [e10] at hch ⊢
  have hzr : o_r (fLend A (σ xC 10) z v w u d).1 := fLend_r hI
  have hJ := fLend_I (rf := σ xC 10) (z := z) (v := v) (w := w) (u := u) (d := d) hI (by omega)
  have hy2 : σ2 (xC + 209) = σ (xC + 209) := (hch.2.1 _ (by omega) (by omega)).trans (hf1 _ (by omega))
  refine r_callVs (q := 26) C (c_X8_settle (z := (fLend A (σ xC 10) z v w u d).1) hX hzr (by rw [hy2]; exact ho) ho9 (by rw [hy2]; exact hsz) hs8) m_X8_100 (by assumption) (by omega) dX8_lend_23 rfl rfl (by decide) (by decide) (Nat.le_of_ble_eq_true rfl) (fun z3 σ3 hσ3 => ?_)
  refine r_iret C hr dX8_lend_26 (by decide) (by decide) ?_
  obtain ⟨rfl, h3⟩ := hσ3
  have hst := settle_of hR ⟨hIn.2.2.1, hIn.2.2.2⟩ ⟨(oI_n hJ).2.2.1, (oI_n hJ).2.2.2⟩ ho ho9 hsz hlen hs8 hrow hb hk1 hch h3
  exact ⟨_, rfl, rfl, rfl, hst⟩
set_option maxRecDepth 20000 in
set_option maxHeartbeats 8000000 in
theorem c_X8_bring {T : oT} {σ : oM} {xC : Nat} {A : Nat → Int} {Bd : Int} (hX : oX T xC) (hR : oHR σ (xC + 1) A) (hI : oI Bd A) (hBd : Bd ≤ 99990000) {Lh : List (Nat → Int)} (hH : oHis σ (xC + 209) Lh) (hb : ∀ B ∈ Lh, nEd B ≤ 6 ∧ nLn B ≤ 20) {z v w : Int} (hz : o_r z) (hv : o_r v) (hw : o_r w) : MS yX8_bring cX8_bring 4 (some FieldType.int) 5 0 0 117 [og xC, oi z, oi v, oi w] T σ (oPs (fun zx σ2 => zx = (fSet3 (fBring A (σ xC 10) z v w) A Lh).1 ∧ oCk σ σ2 xC (fSet3 (fBring A (σ xC 10) z v w) A Lh).2.1 (fSet3 (fBring A (σ xC 10) z v w) A Lh).2.2.1 (fSet3 (fBring A (σ xC 10) z v w) A Lh).2.2.2) T) := by
  have hXc := hX
  obtain ⟨hX0, hXr0, hXr1, hXr2, hXr3, hXr4, hXr5, hXr6, hXn, hXs, hXy, hXq, hXk, hXb, hXbs, hXi, hXT⟩ := hXc
  have hHc := hXn
  obtain ⟨hH0, hH1, hH2, hH3, hH4, hH6, hG1, hG80, hG81, hG82, hG83, hEs, hLs, hHT⟩ := hHc
  have hRc := hR
  obtain ⟨hR0, hR5, hR7, hRw8, hRp, hRl, hRe⟩ := hRc
  have hIn := oI_n hI
  have hIc := hI
  obtain ⟨hI1, hI2, hI3, hI4, hI5, hI6, hI7, hI8, -⟩ := hIc
  have hY0 := hXy.1
  have hHc2 := hH
  obtain ⟨on, sn, ho, ho9, hsz, hlen, hs8, hrow⟩ := hHc2
  refine o_met (by decide +kernel) (Nat.le_of_ble_eq_true rfl) (fun p l ee s m args below meth c G b C hr hn => ?_)
  have C : oCx p s m args meth c G b RX8 cX8_bring 4 := C
  show oW p l ee ({ frames := 5, cells := 0, slots := 0, locals := 117 } : Room) s m args below meth c G b 4 0 0 (MQ below (o_Qc G b (oPs (fun zx σ2 => zx = (fSet3 (fBring A (σ xC 10) z v w) A Lh).1 ∧ oCk σ σ2 xC (fSet3 (fBring A (σ xC 10) z v w) A Lh).2.1 (fSet3 (fBring A (σ xC 10) z v w) A Lh).2.2.1 (fSet3 (fBring A (σ xC 10) z v w) A Lh).2.2.2) T)) args s 0 0 (fun q => b ≤ q)) T σ 0 [some (og xC), some (oi z), some (oi v), some (oi w)] []
  refine r_al0 (q := 1) C dX8_bring_0 rfl ?_
  refine r_getR (q := 4) C f_X8_22 dX8_bring_1 rfl rfl (by assumption) (by assumption) (by omega) ?_
  refine r_al0 (q := 5) C dX8_bring_4 rfl ?_
  refine r_getR (q := 8) C f_X8_10 dX8_bring_5 rfl rfl (by assumption) (by assumption) (by omega) ?_
  refine r_callVv (q := 11) C (c_X5_prepare hXy ho ho9 hsz hs8 hXn (by omega) hR0 hIn.2.2.1 hR5 hIn.2.2.2 (fun j hj => ⟨nBr A j, (oHR_e hR hj).2.2, (oI_b hI hj).2.2.2⟩)) m_X8_94 (by assumption) (by omega) dX8_bring_8 rfl rfl (by decide) (by decide) (Nat.le_of_ble_eq_true rfl) (fun σ1 hk1 => ?_)
  have hf1 := hk1.2.2.2.2.2.2.2
  have hR1 := oHR_fr hR ⟨hIn.2.2.1, hIn.2.2.2⟩ (fun x h1 h2 => hf1 x (by omega))
  have e10 : σ1 xC 10 = σ xC 10 := by rw [hf1 xC (by omega)]
  refine r_al0 (q := 12) C dX8_bring_11 rfl ?_
  refine r_al0 (q := 13) C dX8_bring_12 rfl ?_
  refine r_il1 (q := 14) C dX8_bring_13 rfl ?_
  refine r_il2 (q := 15) C dX8_bring_14 rfl ?_
  refine r_il3 (q := 16) C dX8_bring_15 rfl ?_
  refine r_callVs (q := 19) C (c_X8_bringBack hX hR1 hI hz hv hw) m_X8_308 (by assumption) (by omega) dX8_bring_16 rfl rfl (by decide) (by decide) (Nat.le_of_ble_eq_true rfl) (fun z2 σ2 hσ2 => ?_)
  obtain ⟨rfl, hch⟩ := hσ2
  rw [e10] at hch ⊢
  have hzr : o_r (fBring A (σ xC 10) z v w).1 := fBring_r
  have hJ := fBring_I (rf := σ xC 10) (z := z) (v := v) (w := w) hI hBd
  have hy2 : σ2 (xC + 209) = σ (xC + 209) := (hch.2.1 _ (by omega) (by omega)).trans (hf1 _ (by omega))
  refine r_callVs (q := 22) C (c_X8_settle (z := (fBring A (σ xC 10) z v w).1) hX hzr (by rw [hy2]; exact ho) ho9 (by rw [hy2]; exact hsz) hs8) m_X8_100 (by assumption) (by omega) dX8_bring_19 rfl rfl (by decide) (by decide) (Nat.le_of_ble_eq_true rfl) (fun z3 σ3 hσ3 => ?_)
  refine r_iret C hr dX8_bring_22 (by decide) (by decide) ?_
  obtain ⟨rfl, h3⟩ := hσ3
  have hst := settle_of hR ⟨hIn.2.2.1, hIn.2.2.2⟩ ⟨(oI_n hJ).2.2.1, (oI_n hJ).2.2.2⟩ ho ho9 hsz hlen hs8 hrow hb hk1 hch h3
  exact ⟨_, rfl, rfl, rfl, hst⟩
