/-! states behind a comparison -/
theorem oRM_fr2 {T T2 : oT} {σ σ2 : oM} {mC : Nat} {A : Nat → Int} {Lh : List (Nat → Int)} {sv : Option (Nat → Int)} {rf : Int} {tl : oTold} {bx : oBoxes} {nI : Nat} {f : Nat → Int} {fl fd : Int} (h : oRM T σ mC A Lh sv rf tl bx nI f fl fd) (hx : oExt T T2) (hf : ∀ x, mC < x → x < mC + 15 → (x < mC + 5 ∨ mC + 9 ≤ x) → σ2 x = σ x) (hk : ∀ k, k ≠ 12 → σ2 mC k = σ mC k) : oRM T2 σ2 mC A Lh sv rf tl bx nI f fl fd := by
  obtain ⟨h1, h2, h3, h4, h5, h6, h7, h8, h9, h10, h11, h12⟩ := h
  refine ⟨oMm_ext h1 hx, by rw [hf _ (by omega) (by omega) (by omega)]; exact h2, oMH_fr h3 (hk 4 (by decide)) (hf _ (by omega) (by omega) (by omega)), ?_, ?_, ?_, by rw [hk 21 (by decide)]; exact h7, by rw [hf _ (by omega) (by omega) (by omega)]; exact h8, by rw [hk 5 (by decide)]; exact h9, by rw [hk 25 (by decide)]; exact h10, by rw [hk 26 (by decide)]; exact h11, by rw [hk 7 (by decide)]; exact h12⟩
  · cases sv with
    | none => exact (hk 6 (by decide)).trans h4
    | some B => exact ⟨(hk 6 (by decide)).trans h4.1, fun x hxx => by rw [hf _ (by omega) (by omega) (by omega)]; exact h4.2 x hxx⟩
  · unfold oMt
    rw [hf _ (by omega) (by omega) (by omega)]
    exact h5
  · unfold bxM
    rw [hf (mC + 10) (by omega) (by omega) (by omega), hf (mC + 11) (by omega) (by omega) (by omega), hf (mC + 12) (by omega) (by omega) (by omega), hf (mC + 13) (by omega) (by omega) (by omega)]
    exact h6
theorem oRC_fr2 {T T2 : oT} {σ σ2 : oM} {xC : Nat} {Bd : Int} {A : Nat → Int} {Lh : List (Nat → Int)} {sv : Option (Nat → Int)} {rf : Int} {tl : oTold} {bx : oBoxes} {nI : Nat} {f : Nat → Int} {fl fd : Int} (h : oRC T σ xC A Lh sv rf tl bx nI f fl fd) (hI : oRI Bd A Lh sv) (hx : oExt T T2) (hf : ∀ x, xC ≤ x → x < xC + 1165 → (x < xC + 1147 ∨ xC + 1152 ≤ x) → σ2 x = σ x) : oRC T2 σ2 xC A Lh sv rf tl bx nI f fl fd := by
  obtain ⟨h1, h2, h3, h4, h5, h6, h7, h8, h9, h10, h11⟩ := h
  have hm := hf xC (Nat.le_refl _) (by omega) (by omega)
  have hnb : ∀ B, oIJ Bd B → nEd B ≤ 6 ∧ nLn B ≤ 20 := fun B hB => ⟨(oI_n hB.1).2.2.1, (oI_n hB.1).2.2.2⟩
  refine ⟨oX_ext h1 hx, oTx_ext h2 hx, oHR_fr h3 (hnb A hI.1) (fun x x1 x2 => hf x (by omega) (by omega) (by omega)), ?_, ?_, ?_, oBR_fr h7 (fun x x1 x2 => hf x (by omega) (by omega) (by omega)), ?_, by rw [hm]; exact h9, by rw [hm]; exact h10, by rw [hm]; exact h11⟩
  · obtain ⟨on, sn, g1, g2, g3, g4, g5, g6⟩ := h4
    have hy := hf (xC + 209) (by omega) (by omega) (by omega)
    exact ⟨on, sn, by rw [hy]; exact g1, g2, by rw [hy]; exact g3, g4, g5, fun kx B hB => oHR_fr (g6 kx B hB) (hnb B (hI.2.1 B (List.mem_of_getElem? hB))) (fun x x1 x2 => hf x (by omega) (by omega) (by omega))⟩
  · cases sv with
    | none => exact (congrFun hm 7).trans h5
    | some B => exact ⟨(congrFun hm 7).trans h5.1, oHR_fr h5.2 (hnb B (hI.2.2 B rfl)) (fun x x1 x2 => hf x (by omega) (by omega) (by omega))⟩
  · unfold oTl
    rw [hf _ (by omega) (by omega) (by omega)]
    exact h6
  · obtain ⟨g1, g2, g3⟩ := h8
    exact ⟨by rw [hf _ (by omega) (by omega) (by omega)]; exact g1, g2, fun jx hj => by rw [hf (xC + 1163 + 1) (by omega) (by omega) (by omega)]; exact g3 jx hj⟩
