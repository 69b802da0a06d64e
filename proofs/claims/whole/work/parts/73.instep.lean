/-! steps: the input -/
theorem step_in {T : oT} {σ σ2 σ3 : oM} {xC mC : Nat} {Bd : Int} {A : Nat → Int} {Lh : List (Nat → Int)} {sv : Option (Nat → Int)} {rf : Int} {tl : oTold} {bx : oBoxes} {nI n2 : Nat} {f f2 : Nat → Int} {fl fd : Int} (hmx : xC + 1227 ≤ mC) (hC : oRC T σ xC A Lh sv rf tl bx nI f fl fd) (hM : oRM T σ mC A Lh sv rf tl bx nI f fl fd) (hI : oRI Bd A Lh sv) (hc : oIn σ2 (xC + 1163) n2 f2) (hcf : ∀ x, (x < xC + 1163 ∨ xC + 1227 ≤ x) → σ2 x = σ x) (hm1q : σ3 mC 21 = (n2 : Int)) (hm2q : σ3 (mC + 14) = f2) (hmf : ∀ x, x ≠ mC → x ≠ mC + 14 → σ3 x = σ2 x) (hmk : ∀ k, k ≠ 21 → σ3 mC k = σ2 mC k) :
    oRC T σ3 xC A Lh sv rf tl bx n2 f2 fl fd ∧ oRM T σ3 mC A Lh sv rf tl bx n2 f2 fl fd := by
  obtain ⟨h1, h2, h3, h4, h5, h6, h7, h8, h9, h10, h11⟩ := hC
  have hs : ∀ x, x < xC + 1227 → x < xC + 1163 → σ3 x = σ x := fun x x1 x2 => (hmf x (by omega) (by omega)).trans (hcf x (by omega))
  have hm0 := hs xC (by omega) (by omega)
  have hnb : ∀ B, oIJ Bd B → nEd B ≤ 6 ∧ nLn B ≤ 20 := fun B hB => ⟨(oI_n hB.1).2.2.1, (oI_n hB.1).2.2.2⟩
  refine ⟨⟨h1, h2, oHR_fr h3 (hnb A hI.1) (fun x x1 x2 => hs x (by omega) (by omega)), ?_, ?_, ?_, oBR_fr h7 (fun x x1 x2 => hs x (by omega) (by omega)), ?_, by rw [hm0]; exact h9, by rw [hm0]; exact h10, by rw [hm0]; exact h11⟩, ?_⟩
  · obtain ⟨on, sn, g1, g2, g3, g4, g5, g6⟩ := h4
    have hy := hs (xC + 209) (by omega) (by omega)
    exact ⟨on, sn, by rw [hy]; exact g1, g2, by rw [hy]; exact g3, g4, g5, fun kx B hB => oHR_fr (g6 kx B hB) (hnb B (hI.2.1 B (List.mem_of_getElem? hB))) (fun x x1 x2 => hs x (by omega) (by omega))⟩
  · cases sv with
    | none => exact (congrFun hm0 7).trans h5
    | some B => exact ⟨(congrFun hm0 7).trans h5.1, oHR_fr h5.2 (hnb B (hI.2.2 B rfl)) (fun x x1 x2 => hs x (by omega) (by omega))⟩
  · unfold oTl
    rw [hs _ (by omega) (by omega)]
    exact h6
  · obtain ⟨g1, g2, g3⟩ := hc
    exact ⟨by rw [hmf _ (by omega) (by omega)]; exact g1, g2, fun jx hj => by rw [hmf (xC + 1163 + 1) (by omega) (by omega)]; exact g3 jx hj⟩
  · obtain ⟨k1x, k2x, k3x, k4x, k5x, k6x, k7x, k8x, k9x, kax, kbx, kcx⟩ := hM
    have ht : ∀ x, mC < x → x ≠ mC + 14 → σ3 x = σ x := fun x x1 x2 => (hmf x (by omega) x2).trans (hcf x (by omega))
    have hk : ∀ k, k ≠ 21 → σ3 mC k = σ mC k := fun k hk2 => (hmk k hk2).trans (congrFun (hcf mC (by omega)) k)
    refine ⟨k1x, by rw [ht _ (by omega) (by omega)]; exact k2x, oMH_fr k3x (hk 4 (by decide)) (ht _ (by omega) (by omega)), ?_, ?_, ?_, hm1q, hm2q, by rw [hk 5 (by decide)]; exact k9x, by rw [hk 25 (by decide)]; exact kax, by rw [hk 26 (by decide)]; exact kbx, by rw [hk 7 (by decide)]; exact kcx⟩
    · cases sv with
      | none => exact (hk 6 (by decide)).trans k4x
      | some B => exact ⟨(hk 6 (by decide)).trans k4x.1, fun x hxx => by rw [ht _ (by omega) (by omega)]; exact k4x.2 x hxx⟩
    · unfold oMt
      rw [ht _ (by omega) (by omega)]
      exact k5x
    · unfold bxM
      rw [ht (mC + 10) (by omega) (by omega), ht (mC + 11) (by omega) (by omega), ht (mC + 12) (by omega) (by omega), ht (mC + 13) (by omega) (by omega)]
      exact k6x
