/-! steps: undo and restore (the reference's row agrees below 5055) -/
theorem step_ag {T : oT} {σ σ2 σ3 : oM} {xC mC : Nat} {Bd : Int} {A A2 : Nat → Int} {Lh L2 : List (Nat → Int)} {sv : Option (Nat → Int)} {rf : Int} {tl : oTold} {bx : oBoxes} {nI : Nat} {f : Nat → Int} {fl fd : Int} (hmx : xC + 1227 ≤ mC) (hC : oRC T σ xC A Lh sv rf tl bx nI f fl fd) (hM : oRM T σ mC A Lh sv rf tl bx nI f fl fd) (hI : oRI Bd A Lh sv) (hc : oCk σ σ2 xC A2 L2 (σ xC 10)) (h2 : oIJ Bd A2) (hL : ∀ B ∈ L2, B ∈ Lh ∨ B = A) (g1 : ∀ x, x < 5055 → σ3 (mC + 1) x = A2 x) (g2 : oMH σ3 mC L2) (g3 : ∀ x, x ≠ mC → x ≠ mC + 1 → σ3 x = σ2 x) (g4 : ∀ k, k ≠ 4 → σ3 mC k = σ2 mC k) :
    oRC T σ3 xC (σ3 (mC + 1)) L2 sv rf tl bx nI f fl fd ∧ oRM T σ3 mC (σ3 (mC + 1)) L2 sv rf tl bx nI f fl fd ∧ oRI Bd (σ3 (mC + 1)) L2 sv := by
  have hr : σ xC 10 = rf := hC.2.2.2.2.2.2.2.2.1
  rw [hr] at hc
  obtain ⟨q1, q2⟩ := oRC_ck hC hI hc
  have hI2 : oRI Bd A2 L2 sv := ⟨h2, fun B hm => (hL B hm).elim (fun q => hI.2.1 B q) (fun q => by rw [q]; exact hI.1), hI.2.2⟩
  have q3 := oRC_fr q1 hI2 oExt_rf (σ2 := σ3) (fun x x1 x2 => g3 x (by omega) (by omega))
  obtain ⟨h1, h2x, h3, h4, h5, h6, h7, h8, h9, h10, h11⟩ := q3
  refine ⟨⟨h1, h2x, oHR_ag h3 h2.1 g1, h4, h5, h6, h7, h8, h9, h10, h11⟩, ?_, IJ_ag h2 g1, hI2.2.1, hI2.2.2⟩
  obtain ⟨k1x, k2x, k3x, k4x, k5x, k6x, k7x, k8x, k9x, kax, kbx, kcx⟩ := oRM_fr hM oExt_rf (σ2 := σ2) (fun x x1 x2 => q2 x (by omega))
  refine ⟨k1x, rfl, g2, ?_, ?_, ?_, by rw [g4 21 (by decide)]; exact k7x, by rw [g3 _ (by omega) (by omega)]; exact k8x, by rw [g4 5 (by decide)]; exact k9x, by rw [g4 25 (by decide)]; exact kax, by rw [g4 26 (by decide)]; exact kbx, by rw [g4 7 (by decide)]; exact kcx⟩
  · cases sv with
    | none => exact (g4 6 (by decide)).trans k4x
    | some B => exact ⟨(g4 6 (by decide)).trans k4x.1, fun x hxx => by rw [g3 _ (by omega) (by omega)]; exact k4x.2 x hxx⟩
  · unfold oMt
    rw [g3 _ (by omega) (by omega)]
    exact k5x
  · unfold bxM
    rw [g3 (mC + 10) (by omega) (by omega), g3 (mC + 11) (by omega) (by omega), g3 (mC + 12) (by omega) (by omega), g3 (mC + 13) (by omega) (by omega)]
    exact k6x
/-! steps: save -/
theorem step_sv {T : oT} {σ σ2 σ3 : oM} {xC mC : Nat} {Bd : Int} {A : Nat → Int} {Lh : List (Nat → Int)} {sv : Option (Nat → Int)} {rf : Int} {tl : oTold} {bx : oBoxes} {nI : Nat} {f : Nat → Int} {fl fd : Int} (hmx : xC + 1227 ≤ mC) (hC : oRC T σ xC A Lh sv rf tl bx nI f fl fd) (hM : oRM T σ mC A Lh sv rf tl bx nI f fl fd) (hI : oRI Bd A Lh sv) (c1 : σ2 xC 7 = 1) (c2 : oHR σ2 (xC + 105) A) (c3 : ∀ x, x ≠ xC → (x < xC + 105 ∨ xC + 209 ≤ x) → σ2 x = σ x) (c4 : ∀ kx, kx ≠ 7 → σ2 xC kx = σ xC kx) (g1 : σ3 mC 6 = 1) (g2 : ∀ x, x < 5055 → σ3 (mC + 2) x = A x) (g3 : ∀ x, x ≠ mC → x ≠ mC + 2 → σ3 x = σ2 x) (g4 : ∀ k, k ≠ 6 → σ3 mC k = σ2 mC k) :
    oRC T σ3 xC A Lh (some A) rf tl bx nI f fl fd ∧ oRM T σ3 mC A Lh (some A) rf tl bx nI f fl fd ∧ oRI Bd A Lh (some A) := by
  obtain ⟨h1, h2, h3, h4, h5, h6, h7, h8, h9, h10, h11⟩ := hC
  have hI2 : oRI Bd A Lh (some A) := ⟨hI.1, hI.2.1, fun B hB => by rw [← Option.some.inj hB]; exact hI.1⟩
  have hnb : ∀ B, oIJ Bd B → nEd B ≤ 6 ∧ nLn B ≤ 20 := fun B hB => ⟨(oI_n hB.1).2.2.1, (oI_n hB.1).2.2.2⟩
  have q1 : oRC T σ2 xC A Lh (some A) rf tl bx nI f fl fd := by
    refine ⟨h1, h2, oHR_fr h3 (hnb A hI.1) (fun x x1 x2 => c3 x (by omega) (by omega)), ?_, ⟨c1, c2⟩, ?_, oBR_fr h7 (fun x x1 x2 => c3 x (by omega) (by omega)), ?_, by rw [c4 10 (by decide)]; exact h9, by rw [c4 8 (by decide)]; exact h10, by rw [c4 9 (by decide)]; exact h11⟩
    · obtain ⟨on, sn, g1, g2, g3, g4, g5, g6⟩ := h4
      have hy := c3 (xC + 209) (by omega) (by omega)
      exact ⟨on, sn, by rw [hy]; exact g1, g2, by rw [hy]; exact g3, g4, g5, fun kx B hB => oHR_fr (g6 kx B hB) (hnb B (hI.2.1 B (List.mem_of_getElem? hB))) (fun x x1 x2 => c3 x (by omega) (by omega))⟩
    · unfold oTl
      rw [c3 _ (by omega) (by omega)]
      exact h6
    · obtain ⟨g1, g2, g3⟩ := h8
      exact ⟨by rw [c3 _ (by omega) (by omega)]; exact g1, g2, fun jx hj => by rw [c3 (xC + 1163 + 1) (by omega) (by omega)]; exact g3 jx hj⟩
  refine ⟨oRC_fr q1 hI2 oExt_rf (fun x x1 x2 => g3 x (by omega) (by omega)), ?_, hI2⟩
  obtain ⟨k1x, k2x, k3x, k4x, k5x, k6x, k7x, k8x, k9x, kax, kbx, kcx⟩ := oRM_fr hM oExt_rf (σ2 := σ2) (fun x x1 x2 => c3 x (by omega) (by omega))
  refine ⟨k1x, by rw [g3 _ (by omega) (by omega)]; exact k2x, oMH_fr k3x (g4 4 (by decide)) (g3 _ (by omega) (by omega)), ⟨g1, g2⟩, ?_, ?_, by rw [g4 21 (by decide)]; exact k7x, by rw [g3 _ (by omega) (by omega)]; exact k8x, by rw [g4 5 (by decide)]; exact k9x, by rw [g4 25 (by decide)]; exact kax, by rw [g4 26 (by decide)]; exact kbx, by rw [g4 7 (by decide)]; exact kcx⟩
  · unfold oMt
    rw [g3 _ (by omega) (by omega)]
    exact k5x
  · unfold bxM
    rw [g3 (mC + 10) (by omega) (by omega), g3 (mC + 11) (by omega) (by omega), g3 (mC + 12) (by omega) (by omega), g3 (mC + 13) (by omega) (by omega)]
    exact k6x
/-! steps: copyBowings -/
theorem step_cq {t2 : oTold} {T : oT} {σ σ2 σ3 : oM} {xC mC : Nat} {Bd : Int} {A A2 : Nat → Int} {Lh L2 : List (Nat → Int)} {sv : Option (Nat → Int)} {rf : Int} {tl : oTold} {bx : oBoxes} {nI : Nat} {f : Nat → Int} {fl fd : Int} (hmx : xC + 1227 ≤ mC) (hC : oRC T σ xC A Lh sv rf tl bx nI f fl fd) (hM : oRM T σ mC A Lh sv rf tl bx nI f fl fd) (hI : oRI Bd A Lh sv) (hB : Bd ≤ 99000000) (hc : oCq σ σ2 xC A2 L2 t2) (h2 : oIJ (Bd + 162000) A2) (hL : ∀ B ∈ L2, B ∈ Lh ∨ B = A) (g1 : σ3 (mC + 1) = A2) (g2 : oMH σ3 mC L2) (gt : oMt σ3 mC t2) (g3 : ∀ x, x ≠ mC → x ≠ mC + 1 → x ≠ mC + 4 → x ≠ mC + 9 → σ3 x = σ2 x) (g4 : ∀ k, k ≠ 4 → σ3 mC k = σ2 mC k) :
    oRC T σ3 xC A2 L2 sv rf t2 bx nI f fl fd ∧ oRM T σ3 mC A2 L2 sv rf t2 bx nI f fl fd ∧ oRI (Bd + 162000) A2 L2 sv := by
  obtain ⟨h1, h2x, h3, h4, h5, h6, h7, h8, h9, h10, h11⟩ := hC
  have hI2 := oRI_new hI hB h2 hL
  have hnb : ∀ B, oIJ Bd B → nEd B ≤ 6 ∧ nLn B ≤ 20 := fun B hB => ⟨(oI_n hB.1).2.2.1, (oI_n hB.1).2.2.2⟩
  obtain ⟨c1, c2, c3, c4⟩ := hc
  have hm := c4 xC (by omega) (by omega)
  have q1 : oRC T σ2 xC A2 L2 sv rf t2 bx nI f fl fd := by
    refine ⟨h1, h2x, c1, c2, ?_, c3, oBR_fr h7 (fun x x1 x2 => c4 x (by omega) (by omega)), ?_, by rw [hm]; exact h9, by rw [hm]; exact h10, by rw [hm]; exact h11⟩
    · cases sv with
      | none => exact (congrFun hm 7).trans h5
      | some B => exact ⟨(congrFun hm 7).trans h5.1, oHR_fr h5.2 (hnb B (hI.2.2 B rfl)) (fun x x1 x2 => c4 x (by omega) (by omega))⟩
    · obtain ⟨g1, g2, g3⟩ := h8
      exact ⟨by rw [c4 _ (by omega) (by omega)]; exact g1, g2, fun jx hj => by rw [c4 (xC + 1163 + 1) (by omega) (by omega)]; exact g3 jx hj⟩
  refine ⟨oRC_fr q1 hI2 oExt_rf (fun x x1 x2 => g3 x (by omega) (by omega) (by omega) (by omega)), ?_, hI2⟩
  obtain ⟨k1x, k2x, k3x, k4x, k5x, k6x, k7x, k8x, k9x, kax, kbx, kcx⟩ := oRM_fr hM oExt_rf (σ2 := σ2) (fun x x1 x2 => c4 x (by omega) (by omega))
  refine ⟨k1x, g1, g2, ?_, gt, ?_, by rw [g4 21 (by decide)]; exact k7x, by rw [g3 _ (by omega) (by omega) (by omega) (by omega)]; exact k8x, by rw [g4 5 (by decide)]; exact k9x, by rw [g4 25 (by decide)]; exact kax, by rw [g4 26 (by decide)]; exact kbx, by rw [g4 7 (by decide)]; exact kcx⟩
  · cases sv with
    | none => exact (g4 6 (by decide)).trans k4x
    | some B => exact ⟨(g4 6 (by decide)).trans k4x.1, fun x hxx => by rw [g3 _ (by omega) (by omega) (by omega) (by omega)]; exact k4x.2 x hxx⟩
  · unfold bxM
    rw [g3 (mC + 10) (by omega) (by omega) (by omega) (by omega), g3 (mC + 11) (by omega) (by omega) (by omega) (by omega), g3 (mC + 12) (by omega) (by omega) (by omega) (by omega), g3 (mC + 13) (by omega) (by omega) (by omega) (by omega)]
    exact k6x
