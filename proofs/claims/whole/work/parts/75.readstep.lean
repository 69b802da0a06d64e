/-! steps: read -/
theorem fRead_L {rf : Int} {nI : Nat} {f A : Nat → Int} {Lh : List (Nat → Int)} {B : Nat → Int} (h : B ∈ (fRead nI f A Lh rf).2.2.1) : B ∈ Lh ∨ B = A := by
  unfold fRead at h
  split at h
  · exact Or.inl h
  · split at h
    · exact hpush_m h
    · exact Or.inl h
theorem step_rd {T T3 : oT} {σ σ2 σ3 : oM} {xC mC : Nat} {Bd : Int} {A : Nat → Int} {Lh : List (Nat → Int)} {sv : Option (Nat → Int)} {rf : Int} {tl : oTold} {bx : oBoxes} {nI : Nat} {f : Nat → Int} {fl fd : Int} (hmx : xC + 1227 ≤ mC) (hC : oRC T σ xC A Lh sv rf tl bx nI f fl fd) (hM : oRM T σ mC A Lh sv rf tl bx nI f fl fd) (hI : oRI Bd A Lh sv) (hB : Bd ≤ 99000000) (c1 : oHR σ2 (xC + 1) (fRead nI f A Lh rf).2.1) (c2 : oHis σ2 (xC + 209) (fRead nI f A Lh rf).2.2.1) (c3 : σ2 xC 10 = (fRead nI f A Lh rf).2.2.2) (c4 : σ2 xC 8 = (paP f nI 60 0 []).1) (c5 : σ2 xC 9 = fFail nI f A rf fd) (c6 : σ2 xC 7 = σ xC 7) (c7 : σ2 (xC + 1163) 1 = 0) (c8 : ∀ x, (x < xC ∨ (xC + 105 ≤ x ∧ x < xC + 209) ∨ (xC + 1147 ≤ x ∧ x < xC + 1163) ∨ xC + 1227 ≤ x) → σ2 x = σ x) (hm : oMr T T3 σ2 σ3 mC nI f Lh) :
    oRC T3 σ3 xC (σ3 (mC + 1)) (fRead nI f A Lh rf).2.2.1 sv (fRead nI f A Lh rf).2.2.2 tl bx 0 (σ3 (mC + 14)) (paP f nI 60 0 []).1 (fFail nI f A rf fd) ∧ oRM T3 σ3 mC (σ3 (mC + 1)) (fRead nI f A Lh rf).2.2.1 sv (fRead nI f A Lh rf).2.2.2 tl bx 0 (σ3 (mC + 14)) (paP f nI 60 0 []).1 (fFail nI f A rf fd) ∧ oRI (Bd + 162000) (σ3 (mC + 1)) (fRead nI f A Lh rf).2.2.1 sv := by
  obtain ⟨h1, h2, h3, h4, h5, h6, h7, h8, h9, h10, h11⟩ := hC
  have hnI : nI ≤ 60 := h8.2.1
  have hK := fRead_K (rf := rf) (f := f) (Lh := Lh) hI.1 hB hnI
  have hI2 := oRI_new (L2 := (fRead nI f A Lh rf).2.2.1) hI hB hK (fun B hm => fRead_L hm)
  have hnb : ∀ B, oIJ Bd B → nEd B ≤ 6 ∧ nLn B ≤ 20 := fun B hB => ⟨(oI_n hB.1).2.2.1, (oI_n hB.1).2.2.2⟩
  have q1 : oRC T σ2 xC (fRead nI f A Lh rf).2.1 (fRead nI f A Lh rf).2.2.1 sv (fRead nI f A Lh rf).2.2.2 tl bx 0 (σ3 (mC + 14)) (paP f nI 60 0 []).1 (fFail nI f A rf fd) := by
    refine ⟨h1, h2, c1, c2, ?_, ?_, oBR_fr h7 (fun x x1 x2 => c8 x (by omega)), ⟨by rw [c7]; rfl, by omega, fun jx hj => absurd hj (by omega)⟩, c3, c4, c5⟩
    · cases sv with
      | none => exact c6.trans h5
      | some B => exact ⟨c6.trans h5.1, oHR_fr h5.2 (hnb B (hI.2.2 B rfl)) (fun x x1 x2 => c8 x (by omega))⟩
    · unfold oTl
      rw [c8 _ (by omega)]
      exact h6
  have kM := oRM_fr hM oExt_rf (σ2 := σ2) (fun x x1 x2 => c8 x (by omega))
  obtain ⟨k1x, k2x, k3x, k4x, k5x, k6x, k7x, k8x, k9x, kax, kbx, kcx⟩ := kM
  have hT : mC + 17 ≤ T.1 := by
    have := k1x
    unfold oMm at this
    exact this.2.2.2.2.2.2.2.2.2.2.2.2.2.2.2.2.2.2.2.2.2.2.2.2.2.2.2.2.2.2.2.2.2
  obtain ⟨m0x, m1x, m2x, m3x, m4x, m5x, m6x, m7x, m8x, m9x⟩ := hm
  rw [k2x, k9x] at m1x m2x m3x m5x
  rw [kbx] at m5x
  have q3 := oRC_fr q1 hI2 m0x (σ2 := σ3) (fun x x1 x2 => m9x x (by omega) (by omega) (by omega) (by omega) (by omega) (by omega) (by omega))
  obtain ⟨j1, j2, j3, j4, j5, j6, j7, j8, j9, j10, j11⟩ := q3
  refine ⟨⟨j1, j2, oHR_ag j3 hK.1 m1x, j4, j5, j6, j7, j8, j9, j10, j11⟩, ?_, IJ_ag hK m1x, hI2.2.1, hI2.2.2⟩
  refine ⟨oMm_ext k1x m0x, rfl, m2x, ?_, ?_, ?_, m6x, rfl, m3x, m4x, m5x, m7x⟩
  · cases sv with
    | none => exact m8x.trans k4x
    | some B => exact ⟨m8x.trans k4x.1, fun x hxx => by rw [m9x _ (by omega) (by omega) (by omega) (by omega) (by omega) (by omega) (by omega)]; exact k4x.2 x hxx⟩
  · unfold oMt
    rw [m9x _ (by omega) (by omega) (by omega) (by omega) (by omega) (by omega) (by omega)]
    exact k5x
  · unfold bxM
    rw [m9x (mC + 10) (by omega) (by omega) (by omega) (by omega) (by omega) (by omega) (by omega), m9x (mC + 11) (by omega) (by omega) (by omega) (by omega) (by omega) (by omega) (by omega), m9x (mC + 12) (by omega) (by omega) (by omega) (by omega) (by omega) (by omega) (by omega), m9x (mC + 13) (by omega) (by omega) (by omega) (by omega) (by omega) (by omega) (by omega)]
    exact k6x
