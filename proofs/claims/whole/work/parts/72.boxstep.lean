/-! steps: boxes -/
theorem step_bx {T : oT} {σ σ2 σ3 : oM} {xC mC : Nat} {Bd : Int} {A : Nat → Int} {Lh : List (Nat → Int)} {sv : Option (Nat → Int)} {rf : Int} {tl : oTold} {bx b2 : oBoxes} {nI : Nat} {f : Nat → Int} {fl fd : Int} (hmx : xC + 1227 ≤ mC) (hC : oRC T σ xC A Lh sv rf tl bx nI f fl fd) (hM : oRM T σ mC A Lh sv rf tl bx nI f fl fd) (hI : oRI Bd A Lh sv) (hc : oBR σ2 xC b2) (hcf : ∀ x, (x < xC + 1153 ∨ xC + 1163 ≤ x) → σ2 x = σ x) (hm : bxM σ3 mC = b2) (hmf : ∀ x, (x < mC + 10 ∨ mC + 14 ≤ x) → σ3 x = σ2 x) :
    oRC T σ3 xC A Lh sv rf tl b2 nI f fl fd ∧ oRM T σ3 mC A Lh sv rf tl b2 nI f fl fd := by
  obtain ⟨h1, h2, h3, h4, h5, h6, h7, h8, h9, h10, h11⟩ := hC
  have hs : ∀ x, x < xC + 1227 → (x < xC + 1153 ∨ xC + 1163 ≤ x) → σ3 x = σ x := fun x x1 x2 => (hmf x (by omega)).trans (hcf x x2)
  have hm0 := hs xC (by omega) (by omega)
  have hnb : ∀ B, oIJ Bd B → nEd B ≤ 6 ∧ nLn B ≤ 20 := fun B hB => ⟨(oI_n hB.1).2.2.1, (oI_n hB.1).2.2.2⟩
  refine ⟨⟨h1, h2, oHR_fr h3 (hnb A hI.1) (fun x x1 x2 => hs x (by omega) (by omega)), ?_, ?_, ?_, oBR_fr hc (fun x x1 x2 => hmf x (by omega)), ?_, by rw [hm0]; exact h9, by rw [hm0]; exact h10, by rw [hm0]; exact h11⟩, ?_⟩
  · obtain ⟨on, sn, g1, g2, g3, g4, g5, g6⟩ := h4
    have hy := hs (xC + 209) (by omega) (by omega)
    exact ⟨on, sn, by rw [hy]; exact g1, g2, by rw [hy]; exact g3, g4, g5, fun kx B hB => oHR_fr (g6 kx B hB) (hnb B (hI.2.1 B (List.mem_of_getElem? hB))) (fun x x1 x2 => hs x (by omega) (by omega))⟩
  · cases sv with
    | none => exact (congrFun hm0 7).trans h5
    | some B => exact ⟨(congrFun hm0 7).trans h5.1, oHR_fr h5.2 (hnb B (hI.2.2 B rfl)) (fun x x1 x2 => hs x (by omega) (by omega))⟩
  · unfold oTl
    rw [hs _ (by omega) (by omega)]
    exact h6
  · obtain ⟨g1, g2, g3⟩ := h8
    exact ⟨by rw [hs _ (by omega) (by omega)]; exact g1, g2, fun jx hj => by rw [hs (xC + 1163 + 1) (by omega) (by omega)]; exact g3 jx hj⟩
  · obtain ⟨k1x, k2x, k3x, k4x, k5x, k6x, k7x, k8x, k9x, kax, kbx, kcx⟩ := hM
    have ht : ∀ x, mC ≤ x → (x < mC + 10 ∨ mC + 14 ≤ x) → σ3 x = σ x := fun x x1 x2 => (hmf x x2).trans (hcf x (by omega))
    have hm1 := ht mC (Nat.le_refl _) (by omega)
    refine ⟨k1x, by rw [ht _ (by omega) (by omega)]; exact k2x, oMH_fr k3x (by rw [hm1]) (ht _ (by omega) (by omega)), ?_, ?_, hm, by rw [hm1]; exact k7x, by rw [ht _ (by omega) (by omega)]; exact k8x, by rw [hm1]; exact k9x, by rw [hm1]; exact kax, by rw [hm1]; exact kbx, by rw [hm1]; exact kcx⟩
    · cases sv with
      | none => exact (congrFun hm1 6).trans k4x
      | some B => exact ⟨(congrFun hm1 6).trans k4x.1, fun x hxx => by rw [ht _ (by omega) (by omega)]; exact k4x.2 x hxx⟩
    · unfold oMt
      rw [ht _ (by omega) (by omega)]
      exact k5x
