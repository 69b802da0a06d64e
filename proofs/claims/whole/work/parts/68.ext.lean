/-! shapes stay when cells are added -/
theorem oEd_ext {T T2 : oT} {eC : Nat} (h : oEd T eC) (hx : oExt T T2) : oEd T2 eC := by
  obtain ⟨h0, h1, h2, h3, h4, h5, h6, h7, h8, h9, h10, h11, h12, h13, h14, h15, h16, h17, hz⟩ := h
  exact ⟨(hx.2 _ (by omega)).1.trans h0, (congrFun (hx.2 _ (by omega)).2 _).trans h1, (congrFun (hx.2 _ (by omega)).2 _).trans h2, (congrFun (hx.2 _ (by omega)).2 _).trans h3, (congrFun (hx.2 _ (by omega)).2 _).trans h4, (congrFun (hx.2 _ (by omega)).2 _).trans h5, (congrFun (hx.2 _ (by omega)).2 _).trans h6, (congrFun (hx.2 _ (by omega)).2 _).trans h7, (congrFun (hx.2 _ (by omega)).2 _).trans h8, (hx.2 _ (by omega)).1.trans h9, (hx.2 _ (by omega)).1.trans h10, (hx.2 _ (by omega)).1.trans h11, (hx.2 _ (by omega)).1.trans h12, (hx.2 _ (by omega)).1.trans h13, fun i hi => ⟨(congrFun (hx.2 _ (by omega)).2 _).trans (h14 i hi).1, (hx.2 _ (by omega)).1.trans (h14 i hi).2⟩, (hx.2 _ (by omega)).1.trans h15, (hx.2 _ (by omega)).1.trans h16, (hx.2 _ (by omega)).1.trans h17, Nat.le_trans hz hx.1⟩
theorem oHd_ext {T T2 : oT} {hC : Nat} (h : oHd T hC) (hx : oExt T T2) : oHd T2 hC := by
  obtain ⟨h0, h1, h2, h3, h4, h5, h6, h7, h8, h9, h10, h11, h12, hz⟩ := h
  exact ⟨(hx.2 _ (by omega)).1.trans h0, (congrFun (hx.2 _ (by omega)).2 _).trans h1, (congrFun (hx.2 _ (by omega)).2 _).trans h2, (congrFun (hx.2 _ (by omega)).2 _).trans h3, (congrFun (hx.2 _ (by omega)).2 _).trans h4, (congrFun (hx.2 _ (by omega)).2 _).trans h5, (hx.2 _ (by omega)).1.trans h6, (hx.2 _ (by omega)).1.trans h7, (hx.2 _ (by omega)).1.trans h8, (hx.2 _ (by omega)).1.trans h9, (hx.2 _ (by omega)).1.trans h10, fun i hi => ⟨(congrFun (hx.2 _ (by omega)).2 _).trans (h11 i hi).1, oEd_ext (h11 i hi).2 hx⟩, fun i hi => ⟨(congrFun (hx.2 _ (by omega)).2 _).trans (h12 i hi).1, (hx.2 _ (by omega)).1.trans (h12 i hi).2⟩, Nat.le_trans hz hx.1⟩
theorem oHy_ext {T T2 : oT} {yC : Nat} (h : oHy T yC) (hx : oExt T T2) : oHy T2 yC := by
  obtain ⟨h0, h1, h2, h3, hz⟩ := h
  exact ⟨(hx.2 _ (by omega)).1.trans h0, (congrFun (hx.2 _ (by omega)).2 _).trans h1, (hx.2 _ (by omega)).1.trans h2, fun i hi => ⟨(congrFun (hx.2 _ (by omega)).2 _).trans (h3 i hi).1, oHd_ext (h3 i hi).2 hx⟩, Nat.le_trans hz hx.1⟩
theorem oCm_ext {T T2 : oT} {qC : Nat} (h : oCm T qC) (hx : oExt T T2) : oCm T2 qC := by
  obtain ⟨h0, h1, h2, h3, h4, h5, h6, h7, h8, hz⟩ := h
  exact ⟨(hx.2 _ (by omega)).1.trans h0, (congrFun (hx.2 _ (by omega)).2 _).trans h1, (congrFun (hx.2 _ (by omega)).2 _).trans h2, (congrFun (hx.2 _ (by omega)).2 _).trans h3, (congrFun (hx.2 _ (by omega)).2 _).trans h4, (hx.2 _ (by omega)).1.trans h5, (hx.2 _ (by omega)).1.trans h6, (hx.2 _ (by omega)).1.trans h7, (hx.2 _ (by omega)).1.trans h8, Nat.le_trans hz hx.1⟩
theorem oBx_ext {T T2 : oT} {aC : Nat} (h : oBx T aC) (hx : oExt T T2) : oBx T2 aC := by
  obtain ⟨h0, h1, h2, h3, h4, hz⟩ := h
  exact ⟨(hx.2 _ (by omega)).1.trans h0, (congrFun (hx.2 _ (by omega)).2 _).trans h1, (congrFun (hx.2 _ (by omega)).2 _).trans h2, (hx.2 _ (by omega)).1.trans h3, (hx.2 _ (by omega)).1.trans h4, Nat.le_trans hz hx.1⟩
theorem oTx_ext {T T2 : oT} {iC : Nat} (h : oTx T iC) (hx : oExt T T2) : oTx T2 iC := by
  obtain ⟨h0, h1, h2, h3, h4, h5, h6, h7, hz⟩ := h
  exact ⟨(hx.2 _ (by omega)).1.trans h0, (congrFun (hx.2 _ (by omega)).2 _).trans h1, (congrFun (hx.2 _ (by omega)).2 _).trans h2, (congrFun (hx.2 _ (by omega)).2 _).trans h3, (hx.2 _ (by omega)).1.trans h4, (hx.2 _ (by omega)).1.trans h5, (hx.2 _ (by omega)).1.trans h6, fun i hi => ⟨(congrFun (hx.2 _ (by omega)).2 _).trans (h7 i hi).1, (hx.2 _ (by omega)).1.trans (h7 i hi).2⟩, Nat.le_trans hz hx.1⟩
theorem oX_ext {T T2 : oT} {xC : Nat} (h : oX T xC) (hx : oExt T T2) : oX T2 xC := by
  obtain ⟨h0, h1, h2, h3, h4, h5, h6, h7, h8, h9, h10, h11, h12, h13, h14, h15, hz⟩ := h
  exact ⟨(hx.2 _ (by omega)).1.trans h0, (congrFun (hx.2 _ (by omega)).2 _).trans h1, (congrFun (hx.2 _ (by omega)).2 _).trans h2, (congrFun (hx.2 _ (by omega)).2 _).trans h3, (congrFun (hx.2 _ (by omega)).2 _).trans h4, (congrFun (hx.2 _ (by omega)).2 _).trans h5, (congrFun (hx.2 _ (by omega)).2 _).trans h6, (congrFun (hx.2 _ (by omega)).2 _).trans h7, oHd_ext h8 hx, oHd_ext h9 hx, oHy_ext h10 hx, oCm_ext h11 hx, (hx.2 _ (by omega)).1.trans h12, (hx.2 _ (by omega)).1.trans h13, fun i hi => ⟨(congrFun (hx.2 _ (by omega)).2 _).trans (h14 i hi).1, oBx_ext (h14 i hi).2 hx⟩, (hx.2 _ (by omega)).1.trans h15, Nat.le_trans hz hx.1⟩
/-- the class holds this state -/
def oRC (T : oT) (σ : oM) (xC : Nat) (A : Nat → Int) (Lh : List (Nat → Int)) (sv : Option (Nat → Int)) (rf : Int) (tl : oTold) (bx : oBoxes) (nI : Nat) (f : Nat → Int) (fl fd : Int) : Prop := oX T xC ∧ oTx T (xC + 1163) ∧ oHR σ (xC + 1) A ∧ oHis σ (xC + 209) Lh ∧ oSv σ xC sv ∧ oTl σ (xC + 1152) tl ∧ oBR σ xC bx ∧ oIn σ (xC + 1163) nI f ∧ σ xC 10 = rf ∧ σ xC 8 = fl ∧ σ xC 9 = fd
/-- the reference holds this state -/
def oRM (T : oT) (σ : oM) (mC : Nat) (A : Nat → Int) (Lh : List (Nat → Int)) (sv : Option (Nat → Int)) (rf : Int) (tl : oTold) (bx : oBoxes) (nI : Nat) (f : Nat → Int) (fl fd : Int) : Prop := oMm T mC ∧ σ (mC + 1) = A ∧ oMH σ mC Lh ∧ oSM σ mC sv ∧ oMt σ mC tl ∧ bxM σ mC = bx ∧ σ mC 21 = (nI : Int) ∧ σ (mC + 14) = f ∧ σ mC 5 = rf ∧ σ mC 25 = fl ∧ σ mC 26 = fd ∧ σ mC 7 = 0
/-- what the state keeps to -/
def oRI (Bd : Int) (A : Nat → Int) (Lh : List (Nat → Int)) (sv : Option (Nat → Int)) : Prop := oIJ Bd A ∧ (∀ B ∈ Lh, oIJ Bd B) ∧ ∀ B, sv = some B → oIJ Bd B
theorem oRM_fr {T T2 : oT} {σ σ2 : oM} {mC : Nat} {A : Nat → Int} {Lh : List (Nat → Int)} {sv : Option (Nat → Int)} {rf : Int} {tl : oTold} {bx : oBoxes} {nI : Nat} {f : Nat → Int} {fl fd : Int} (h : oRM T σ mC A Lh sv rf tl bx nI f fl fd) (hx : oExt T T2) (hf : ∀ x, mC ≤ x → x < mC + 17 → σ2 x = σ x) : oRM T2 σ2 mC A Lh sv rf tl bx nI f fl fd := by
  obtain ⟨h1, h2, h3, h4, h5, h6, h7, h8, h9, h10, h11, h12⟩ := h
  have hm := hf mC (Nat.le_refl _) (by omega)
  refine ⟨oMm_ext h1 hx, by rw [hf _ (by omega) (by omega)]; exact h2, oMH_fr h3 (by rw [hm]) (hf _ (by omega) (by omega)), ?_, ?_, ?_, by rw [hm]; exact h7, by rw [hf _ (by omega) (by omega)]; exact h8, by rw [hm]; exact h9, by rw [hm]; exact h10, by rw [hm]; exact h11, by rw [hm]; exact h12⟩
  · cases sv with
    | none => exact (congrFun hm 6).trans h4
    | some B => exact ⟨(congrFun hm 6).trans h4.1, fun x hxx => by rw [hf _ (by omega) (by omega)]; exact h4.2 x hxx⟩
  · unfold oMt
    rw [hf _ (by omega) (by omega)]
    exact h5
  · unfold bxM
    rw [hf (mC + 10) (by omega) (by omega), hf (mC + 11) (by omega) (by omega), hf (mC + 12) (by omega) (by omega), hf (mC + 13) (by omega) (by omega)]
    exact h6
theorem oRC_fr {T T2 : oT} {σ σ2 : oM} {xC : Nat} {Bd : Int} {A : Nat → Int} {Lh : List (Nat → Int)} {sv : Option (Nat → Int)} {rf : Int} {tl : oTold} {bx : oBoxes} {nI : Nat} {f : Nat → Int} {fl fd : Int} (h : oRC T σ xC A Lh sv rf tl bx nI f fl fd) (hI : oRI Bd A Lh sv) (hx : oExt T T2) (hf : ∀ x, xC ≤ x → x < xC + 1227 → σ2 x = σ x) : oRC T2 σ2 xC A Lh sv rf tl bx nI f fl fd := by
  obtain ⟨h1, h2, h3, h4, h5, h6, h7, h8, h9, h10, h11⟩ := h
  have hm := hf xC (Nat.le_refl _) (by omega)
  have hnb : ∀ B, oIJ Bd B → nEd B ≤ 6 ∧ nLn B ≤ 20 := fun B hB => ⟨(oI_n hB.1).2.2.1, (oI_n hB.1).2.2.2⟩
  refine ⟨oX_ext h1 hx, oTx_ext h2 hx, oHR_fr h3 (hnb A hI.1) (fun x x1 x2 => hf x (by omega) (by omega)), ?_, ?_, ?_, oBR_fr h7 (fun x x1 x2 => hf x (by omega) (by omega)), ?_, by rw [hm]; exact h9, by rw [hm]; exact h10, by rw [hm]; exact h11⟩
  · obtain ⟨on, sn, g1, g2, g3, g4, g5, g6⟩ := h4
    have hy := hf (xC + 209) (by omega) (by omega)
    exact ⟨on, sn, by rw [hy]; exact g1, g2, by rw [hy]; exact g3, g4, g5, fun kx B hB => oHR_fr (g6 kx B hB) (hnb B (hI.2.1 B (List.mem_of_getElem? hB))) (fun x x1 x2 => hf x (by omega) (by omega))⟩
  · cases sv with
    | none => exact (congrFun hm 7).trans h5
    | some B => exact ⟨(congrFun hm 7).trans h5.1, oHR_fr h5.2 (hnb B (hI.2.2 B rfl)) (fun x x1 x2 => hf x (by omega) (by omega))⟩
  · unfold oTl
    rw [hf _ (by omega) (by omega)]
    exact h6
  · obtain ⟨g1, g2, g3⟩ := h8
    exact ⟨by rw [hf _ (by omega) (by omega)]; exact g1, g2, fun jx hj => by rw [hf (xC + 1163 + 1) (by omega) (by omega)]; exact g3 jx hj⟩
