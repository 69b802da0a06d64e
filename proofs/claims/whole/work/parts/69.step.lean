/-! a changing call carries the states on -/
theorem oRC_ck {T : oT} {σ σ2 : oM} {xC : Nat} {Bd : Int} {A A2 : Nat → Int} {Lh L2 : List (Nat → Int)} {sv : Option (Nat → Int)} {rf r2 : Int} {tl : oTold} {bx : oBoxes} {nI : Nat} {f : Nat → Int} {fl fd : Int} (h : oRC T σ xC A Lh sv rf tl bx nI f fl fd) (hI : oRI Bd A Lh sv) (hc : oCk σ σ2 xC A2 L2 r2) : oRC T σ2 xC A2 L2 sv r2 tl bx nI f fl fd ∧ ∀ x, (x < xC ∨ xC + 1227 ≤ x) → σ2 x = σ x := by
  obtain ⟨h1, h2, h3, h4, h5, h6, h7, h8, h9, h10, h11⟩ := h
  obtain ⟨c1x, c2x, c3x, c4x, c5x⟩ := hc
  have hnb : ∀ B, oIJ Bd B → nEd B ≤ 6 ∧ nLn B ≤ 20 := fun B hB => ⟨(oI_n hB.1).2.2.1, (oI_n hB.1).2.2.2⟩
  refine ⟨⟨h1, h2, c1x, c2x, ?_, ?_, oBR_fr h7 (fun x x1 x2 => c3x x (by omega) (by omega)), ?_, c5x, by rw [c4x 8 (by decide)]; exact h10, by rw [c4x 9 (by decide)]; exact h11⟩, fun x hx => c3x x (by omega) (by omega)⟩
  · cases sv with
    | none => exact (c4x 7 (by decide)).trans h5
    | some B => exact ⟨(c4x 7 (by decide)).trans h5.1, oHR_fr h5.2 (hnb B (hI.2.2 B rfl)) (fun x x1 x2 => c3x x (by omega) (by omega))⟩
  · unfold oTl
    rw [c3x _ (by omega) (by omega)]
    exact h6
  · obtain ⟨g1, g2, g3⟩ := h8
    exact ⟨by rw [c3x _ (by omega) (by omega)]; exact g1, g2, fun jx hj => by rw [c3x (xC + 1163 + 1) (by omega) (by omega)]; exact g3 jx hj⟩
theorem oRM_me {T T2 : oT} {σ σ2 : oM} {mC : Nat} {A A2 : Nat → Int} {Lh L2 : List (Nat → Int)} {sv : Option (Nat → Int)} {rf r2 : Int} {tl : oTold} {bx : oBoxes} {nI : Nat} {f : Nat → Int} {fl fd : Int} (h : oRM T σ mC A Lh sv rf tl bx nI f fl fd) (hc : oMe T T2 σ σ2 mC A2 L2 r2) : oRM T2 σ2 mC A2 L2 sv r2 tl bx nI f fl fd ∧ ∀ x, x < mC → σ2 x = σ x := by
  obtain ⟨h1, h2, h3, h4, h5, h6, h7, h8, h9, h10, h11, h12⟩ := h
  obtain ⟨c0x, c1x, c2x, c3x, c4x, c5x⟩ := hc
  have hT : mC + 17 ≤ T.1 := by
    have := h1
    unfold oMm at this
    exact this.2.2.2.2.2.2.2.2.2.2.2.2.2.2.2.2.2.2.2.2.2.2.2.2.2.2.2.2.2.2.2.2.2
  refine ⟨⟨oMm_ext h1 c0x, c1x, c2x, ?_, ?_, ?_, by rw [c4x 21 (by decide) (by decide)]; exact h7, by rw [c3x _ (by omega) (by omega) (by omega) (by omega)]; exact h8, c5x, by rw [c4x 25 (by decide) (by decide)]; exact h10, by rw [c4x 26 (by decide) (by decide)]; exact h11, by rw [c4x 7 (by decide) (by decide)]; exact h12⟩, fun x hx => c3x x (by omega) (by omega) (by omega) (by omega)⟩
  · cases sv with
    | none => exact (c4x 6 (by decide) (by decide)).trans h4
    | some B => exact ⟨(c4x 6 (by decide) (by decide)).trans h4.1, fun x hxx => by rw [c3x _ (by omega) (by omega) (by omega) (by omega)]; exact h4.2 x hxx⟩
  · unfold oMt
    rw [c3x _ (by omega) (by omega) (by omega) (by omega)]
    exact h5
  · unfold bxM
    rw [c3x (mC + 10) (by omega) (by omega) (by omega) (by omega), c3x (mC + 11) (by omega) (by omega) (by omega) (by omega), c3x (mC + 12) (by omega) (by omega) (by omega) (by omega), c3x (mC + 13) (by omega) (by omega) (by omega) (by omega)]
    exact h6
theorem oRI_new {Bd : Int} {A A2 : Nat → Int} {Lh L2 : List (Nat → Int)} {sv : Option (Nat → Int)} (h : oRI Bd A Lh sv) (hB : Bd ≤ 99000000) (h2 : oIJ (Bd + 162000) A2) (hL : ∀ B ∈ L2, B ∈ Lh ∨ B = A) : oRI (Bd + 162000) A2 L2 sv :=
  ⟨h2, fun B hm => (hL B hm).elim (fun q => IJ_grow (h.2.1 B q) (by omega) (by omega)) (fun q => by rw [q]; exact IJ_grow h.1 (by omega) (by omega)), fun B hs => IJ_grow (h.2.2 B hs) (by omega) (by omega)⟩
/-- class and reference, one call each, with the same change -/
theorem step_ck {T T3 : oT} {σ σ2 σ3 : oM} {xC mC : Nat} {Bd : Int} {A A2 : Nat → Int} {Lh L2 : List (Nat → Int)} {sv : Option (Nat → Int)} {rf r2 : Int} {tl : oTold} {bx : oBoxes} {nI : Nat} {f : Nat → Int} {fl fd : Int} (hmx : xC + 1227 ≤ mC) (hC : oRC T σ xC A Lh sv rf tl bx nI f fl fd) (hM : oRM T σ mC A Lh sv rf tl bx nI f fl fd) (hI : oRI Bd A Lh sv) (hB : Bd ≤ 99000000) (hc : oCk σ σ2 xC A2 L2 r2) (hm : oMe T T3 σ2 σ3 mC A2 L2 r2) (h2 : oIJ (Bd + 162000) A2) (hL : ∀ B ∈ L2, B ∈ Lh ∨ B = A) :
    oRC T3 σ3 xC A2 L2 sv r2 tl bx nI f fl fd ∧ oRM T3 σ3 mC A2 L2 sv r2 tl bx nI f fl fd ∧ oRI (Bd + 162000) A2 L2 sv := by
  obtain ⟨q1, q2⟩ := oRC_ck hC hI hc
  have hM2 := oRM_fr hM oExt_rf (fun x x1 x2 => q2 x (by omega))
  obtain ⟨q3, q4⟩ := oRM_me hM2 hm
  have hI2 := oRI_new hI hB h2 hL
  exact ⟨oRC_fr q1 hI2 hm.1 (fun x x1 x2 => q4 x (by omega)), q3, hI2⟩
