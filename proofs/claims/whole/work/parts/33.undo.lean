/-! undo, the snapshot, the input -/
def fUndo (A : Nat → Int) (Lh : List (Nat → Int)) : Int × (Nat → Int) × List (Nat → Int) := match Lh.getLast? with
  | none => (-3, A, Lh)
  | some B => ((Lh.length : Int) - 1, B, Lh.dropLast)
theorem fUndo_0 {A : Nat → Int} {Lh : List (Nat → Int)} (h : Lh.length = 0) : fUndo A Lh = (-3, A, Lh) := by
  have : Lh = [] := List.eq_nil_of_length_eq_zero h
  subst this
  rfl
theorem fUndo_s {A B : Nat → Int} {Lh : List (Nat → Int)} {sn : Nat} (h : Lh.length = sn + 1) (hB : Lh[sn]? = some B) : fUndo A Lh = ((Lh.length : Int) - 1, B, Lh.dropLast) := by
  have e : Lh.getLast? = some B := by rw [List.getLast?_eq_getElem?, h, show sn + 1 - 1 = sn by omega, hB]
  unfold fUndo
  rw [e]
/-- the snapshot: none, or what it holds -/
def oSv (σ : oM) (xC : Nat) : Option (Nat → Int) → Prop
  | none => σ xC 7 = 0
  | some B => σ xC 7 = 1 ∧ oHR σ (xC + 105) B
def fRestore (A : Nat → Int) (Lh : List (Nat → Int)) (sv : Option (Nat → Int)) : Int × (Nat → Int) × List (Nat → Int) := match sv with
  | none => (-3, A, Lh)
  | some B => (B 0, B, [])
theorem oHis_pop {σ σ2 : oM} {yC on sn : Nat} {Lh : List (Nat → Int)} (ho : σ yC 1 = (on : Int)) (ho9 : on < 9) (hl : sn + 1 = Lh.length) (h8 : sn + 1 ≤ 8) (hr : ∀ (kx : Nat) (B : Nat → Int), Lh[kx]? = some B → oHR σ (yC + 2 + 104 * ((on + kx) % 9)) B) (hb : ∀ B ∈ Lh, nEd B ≤ 6 ∧ nLn B ≤ 20) (h2 : ∀ x, yC < x → x < yC + 938 → σ2 x = σ x) (h1 : σ2 yC 1 = σ yC 1) (h3 : σ2 yC 2 = (sn : Int)) : oHis σ2 yC Lh.dropLast := by
  refine ⟨on, sn, by rw [h1]; exact ho, ho9, h3, by rw [List.length_dropLast]; omega, by omega, fun kx B hB => ?_⟩
  have hk := (List.getElem?_eq_some_iff.mp hB).1
  rw [List.length_dropLast] at hk
  rw [List.getElem?_dropLast, if_pos (by omega)] at hB
  exact oHR_fr (hr kx B hB) (hb B (List.mem_of_getElem? hB)) (fun x g1 g2 => h2 x (by omega) (by omega))
theorem oHis_nil {σ : oM} {yC on : Nat} (ho : σ yC 1 = (on : Int)) (ho9 : on < 9) (h : σ yC 2 = 0) : oHis σ yC [] := ⟨on, 0, ho, ho9, h, rfl, by omega, fun kx B hB => by simp at hB⟩
set_option maxRecDepth 20000 in
set_option maxHeartbeats 8000000 in
theorem c_X8_undo {T : oT} {σ : oM} {xC : Nat} {A : Nat → Int} {Bd : Int} (hX : oX T xC) (hR : oHR σ (xC + 1) A) (hI : oI Bd A) {Lh : List (Nat → Int)} (hH : oHis σ (xC + 209) Lh) (hbI : ∀ B ∈ Lh, oI Bd B) : MS yX8_undo cX8_undo 1 (some FieldType.int) 6 0 0 138 [og xC] T σ (oPs (fun zx σ2 => zx = (fUndo A Lh).1 ∧ oCk σ σ2 xC (fUndo A Lh).2.1 (fUndo A Lh).2.2 (σ xC 10)) T) := by
  have hXc := hX
  obtain ⟨hX0, hXr0, hXr1, hXr2, hXr3, hXr4, hXr5, hXr6, hXn, hXs, hXy, hXq, hXk, hXb, hXbs, hXi, hXT⟩ := hXc
  have hHc := hXn
  obtain ⟨hH0, hH1, hH2, hH3, hH4, hH6, hG1, hG80, hG81, hG82, hG83, hEs, hLs, hHT⟩ := hHc
  have hRc := hR
  obtain ⟨hR0, hR5, hR7, hRw8, hRp, hRl, hRe⟩ := hRc
  have hIn := oI_n hI
  have hIc := hI
  obtain ⟨hI1, hI2, hI3, hI4, hI5, hI6, hI7, hI8, -⟩ := hIc
  have hY0 := hXy.1
  have hHc2 := hH
  obtain ⟨on, sn, ho, ho9, hsz, hlen, hs8, hrow⟩ := hHc2
  have hb : ∀ B ∈ Lh, nEd B ≤ 6 ∧ nLn B ≤ 20 := fun B hB => ⟨(oI_n (hbI B hB)).2.2.1, (oI_n (hbI B hB)).2.2.2⟩
  refine o_met (by decide +kernel) (Nat.le_of_ble_eq_true rfl) (fun p l ee s m args below meth c G b C hr hn => ?_)
  have C : oCx p s m args meth c G b RX8 cX8_undo 1 := C
  show oW p l ee ({ frames := 6, cells := 0, slots := 0, locals := 138 } : Room) s m args below meth c G b 1 0 0 (MQ below (o_Qc G b (oPs (fun zx σ2 => zx = (fUndo A Lh).1 ∧ oCk σ σ2 xC (fUndo A Lh).2.1 (fUndo A Lh).2.2 (σ xC 10)) T)) args s 0 0 (fun q => b ≤ q)) T σ 0 [some (og xC)] []
  refine r_al0 (q := 1) C dX8_undo_0 rfl ?_
  refine r_getR (q := 4) C f_X8_22 dX8_undo_1 rfl rfl (by assumption) (by assumption) (by omega) ?_
  refine r_getI (q := 7) C f_X8_418 dX8_undo_4 rfl rfl (by assumption) (by omega) ?_
  rw [hsz]
  refine r_ifne (q := 13) (q2 := 10) C (by omega) dX8_undo_7 (by decide) rfl (fun br7 => ?_) (fun br7 => ?_)
  · obtain ⟨tn, rfl⟩ : ∃ tn : Nat, sn = tn + 1 := ⟨sn - 1, by omega⟩
    obtain ⟨B, hLB⟩ : ∃ B, Lh[tn]? = some B := ⟨Lh[tn]'(by omega), List.getElem?_eq_getElem (by omega)⟩
    have hs := fUndo_s (A := A) hlen.symm hLB
    have hBm := List.mem_of_getElem? hLB
    have hIB := hbI B hBm
    have hnB := oI_n hIB
    have hRB := hrow tn B hLB
    refine r_al0 (q := 14) C dX8_undo_13 rfl ?_
    refine r_getR (q := 17) C f_X8_22 dX8_undo_14 rfl rfl (by assumption) (by assumption) (by omega) ?_
    refine r_al0 (q := 18) C dX8_undo_17 rfl ?_
    refine r_getR (q := 21) C f_X8_10 dX8_undo_18 rfl rfl (by assumption) (by assumption) (by omega) ?_
    refine r_callVv (q := 24) C (c_X5_goBack (Nn := nEd B) (Mn := nLn B) hXy ho ho9 hsz hs8 (by omega) hXn (by omega) hRB.1 hnB.2.2.1 hRB.2.1 hnB.2.2.2 (fun j hj => ⟨nBr B j, (oHR_e hRB hj).2.2, (oI_b hIB hj).2.2.2⟩)) m_X8_421 (by assumption) (by omega) dX8_undo_21 rfl rfl (by decide) (by decide) (Nat.le_of_ble_eq_true rfl) (fun σ2 hσ2 => ?_)
    have hRB2 : oHR (o_up σ (xC + 209) 2 ((tn + 1 - 1 : Nat) : Int)) (xC + 209 + 2 + 104 * ((on + (tn + 1 - 1)) % 9)) B := oHR_fr hRB ⟨hnB.2.2.1, hnB.2.2.2⟩ (fun x h1 h2 => o_up_ne (by omega))
    have hnew := hdLike_HR hσ2 hRB2
    obtain ⟨-, -, -, -, -, -, -, hf⟩ := hσ2
    have hy := hf (xC + 209) (by omega)
    have e2 : σ2 (xC + 209) 2 = (tn : Int) := by rw [hy, o_up_at]; rfl
    have e1 : σ2 (xC + 209) 1 = σ (xC + 209) 1 := by rw [hy, o_up_nj (Or.inr (by decide))]
    refine r_al0 (q := 25) C dX8_undo_24 rfl ?_
    refine r_getR (q := 28) C f_X8_22 dX8_undo_25 rfl rfl (by assumption) (by assumption) (by omega) ?_
    refine r_getI (q := 31) C f_X8_418 dX8_undo_28 rfl rfl (by assumption) (by omega) ?_
    rw [e2]
    exact r_iret C hr dX8_undo_31 (by decide) (by decide) ⟨_, rfl, rfl, by rw [hs]; omega, by rw [hs]; exact ⟨hnew, oHis_pop ho ho9 hlen (by omega) hrow hb (fun x h1 h2 => by rw [hf x (by omega), o_up_ne (by omega)]) e1 e2, fun x h1 h2 => by rw [hf x (by omega), o_up_ne (by omega)], fun k _ => by rw [hf xC (by omega), o_up_ne (by omega)], by rw [hf xC (by omega), o_up_ne (by omega)]⟩⟩
  · refine r_bipush (q := 12) C dX8_undo_10 (by decide) rfl ?_
    exact r_iret C hr dX8_undo_12 (by decide) (by decide) ⟨_, rfl, rfl, by rw [fUndo_0 (by omega)], by rw [fUndo_0 (by omega)]; exact oCk_rf hR hH⟩
set_option maxRecDepth 20000 in
set_option maxHeartbeats 8000000 in
theorem c_X8_save {T : oT} {σ : oM} {xC : Nat} {A : Nat → Int} {Bd : Int} (hX : oX T xC) (hR : oHR σ (xC + 1) A) (hI : oI Bd A) : MS yX8_save cX8_save 1 (some FieldType.int) 4 0 0 96 [og xC] T σ (oPs (fun zx σ2 => zx = A 0 ∧ σ2 xC 7 = 1 ∧ oHR σ2 (xC + 105) A ∧ (∀ x, x ≠ xC → (x < xC + 105 ∨ xC + 209 ≤ x) → σ2 x = σ x) ∧ (∀ kx, kx ≠ 7 → σ2 xC kx = σ xC kx)) T) := by
  have hXc := hX
  obtain ⟨hX0, hXr0, hXr1, hXr2, hXr3, hXr4, hXr5, hXr6, hXn, hXs, hXy, hXq, hXk, hXb, hXbs, hXi, hXT⟩ := hXc
  have hHc := hXn
  obtain ⟨hH0, hH1, hH2, hH3, hH4, hH6, hG1, hG80, hG81, hG82, hG83, hEs, hLs, hHT⟩ := hHc
  have hRc := hR
  obtain ⟨hR0, hR5, hR7, hRw8, hRp, hRl, hRe⟩ := hRc
  have hIn := oI_n hI
  have hIc := hI
  obtain ⟨hI1, hI2, hI3, hI4, hI5, hI6, hI7, hI8, -⟩ := hIc
  have hS0 := hXs.1
  refine o_met (by decide +kernel) (Nat.le_of_ble_eq_true rfl) (fun p l ee s m args below meth c G b C hr hn => ?_)
  have C : oCx p s m args meth c G b RX8 cX8_save 1 := C
  show oW p l ee ({ frames := 4, cells := 0, slots := 0, locals := 96 } : Room) s m args below meth c G b 1 0 0 (MQ below (o_Qc G b (oPs (fun zx σ2 => zx = A 0 ∧ σ2 xC 7 = 1 ∧ oHR σ2 (xC + 105) A ∧ (∀ x, x ≠ xC → (x < xC + 105 ∨ xC + 209 ≤ x) → σ2 x = σ x) ∧ (∀ kx, kx ≠ 7 → σ2 xC kx = σ xC kx)) T)) args s 0 0 (fun q => b ≤ q)) T σ 0 [some (og xC)] []
  refine r_al0 (q := 1) C dX8_save_0 rfl ?_
  refine r_getR (q := 4) C f_X8_16 dX8_save_1 rfl rfl (by assumption) (by assumption) (by omega) ?_
  refine r_al0 (q := 5) C dX8_save_4 rfl ?_
  refine r_getR (q := 8) C f_X8_10 dX8_save_5 rfl rfl (by assumption) (by assumption) (by omega) ?_
  refine r_callVv (q := 11) C (c_X6_becomeLike hXs hXn (by omega) hR0 hIn.2.2.1 hR5 hIn.2.2.2 (fun j hj => ⟨nBr A j, (oHR_e hR hj).2.2, (oI_b hI hj).2.2.2⟩)) m_X8_424 (by assumption) (by omega) dX8_save_8 rfl rfl (by decide) (by decide) (Nat.le_of_ble_eq_true rfl) (fun σ2 hσ2 => ?_)
  have hnew := hdLike_HR hσ2 hR
  obtain ⟨-, -, -, -, -, -, -, hf⟩ := hσ2
  refine r_al0 (q := 12) C dX8_save_11 rfl ?_
  refine r_iconst (q := 13) C dX8_save_12 rfl ?_
  refine r_putZ (q := 16) C fp_X8_54 dX8_save_13 rfl rfl (by decide) (by assumption) (by omega) ?_
  refine r_al0 (q := 17) C dX8_save_16 rfl ?_
  refine r_getR (q := 20) C f_X8_10 dX8_save_17 rfl rfl (by assumption) (by assumption) (by omega) ?_
  refine r_getI (q := 23) C f_X8_76 dX8_save_20 rfl rfl (by assumption) (by omega) ?_
  rw [o_up_ne (by omega), hf (xC + 1) (by omega), hR0]
  exact r_iret C hr dX8_save_23 (by decide) (by decide) ⟨_, rfl, rfl, hIn.1, o_up_at, oHR_fr hnew ⟨hIn.2.2.1, hIn.2.2.2⟩ (fun x h1 h2 => o_up_ne (by omega)), fun x h1 h2 => by rw [o_up_ne h1]; exact hf x h2, fun kx hk => by rw [o_up_nj (Or.inr hk), hf xC (by omega)]⟩
set_option maxRecDepth 20000 in
set_option maxHeartbeats 8000000 in
theorem c_X8_restore {T : oT} {σ : oM} {xC : Nat} {A : Nat → Int} {Bd : Int} (hX : oX T xC) (hR : oHR σ (xC + 1) A) (hI : oI Bd A) {Lh : List (Nat → Int)} (hH : oHis σ (xC + 209) Lh) (hbI : ∀ B ∈ Lh, oI Bd B) {sv : Option (Nat → Int)} (hSv : oSv σ xC sv) (hsI : ∀ B, sv = some B → oI Bd B) : MS yX8_restore cX8_restore 1 (some FieldType.int) 4 0 0 96 [og xC] T σ (oPs (fun zx σ2 => zx = (fRestore A Lh sv).1 ∧ oCk σ σ2 xC (fRestore A Lh sv).2.1 (fRestore A Lh sv).2.2 (σ xC 10)) T) := by
  have hXc := hX
  obtain ⟨hX0, hXr0, hXr1, hXr2, hXr3, hXr4, hXr5, hXr6, hXn, hXs, hXy, hXq, hXk, hXb, hXbs, hXi, hXT⟩ := hXc
  have hHc := hXn
  obtain ⟨hH0, hH1, hH2, hH3, hH4, hH6, hG1, hG80, hG81, hG82, hG83, hEs, hLs, hHT⟩ := hHc
  have hRc := hR
  obtain ⟨hR0, hR5, hR7, hRw8, hRp, hRl, hRe⟩ := hRc
  have hIn := oI_n hI
  have hIc := hI
  obtain ⟨hI1, hI2, hI3, hI4, hI5, hI6, hI7, hI8, -⟩ := hIc
  have hY0 := hXy.1
  have hHc2 := hH
  obtain ⟨on, sn, ho, ho9, hsz, hlen, hs8, hrow⟩ := hHc2
  refine o_met (by decide +kernel) (Nat.le_of_ble_eq_true rfl) (fun p l ee s m args below meth c G b C hr hn => ?_)
  have C : oCx p s m args meth c G b RX8 cX8_restore 1 := C
  show oW p l ee ({ frames := 4, cells := 0, slots := 0, locals := 96 } : Room) s m args below meth c G b 1 0 0 (MQ below (o_Qc G b (oPs (fun zx σ2 => zx = (fRestore A Lh sv).1 ∧ oCk σ σ2 xC (fRestore A Lh sv).2.1 (fRestore A Lh sv).2.2 (σ xC 10)) T)) args s 0 0 (fun q => b ≤ q)) T σ 0 [some (og xC)] []
  refine r_al0 (q := 1) C dX8_restore_0 rfl ?_
  refine r_getI (q := 4) C f_X8_54 dX8_restore_1 rfl rfl (by assumption) (by omega) ?_
  have h7r : o_r (σ xC 7) := by
    cases sv with
    | none => exact (show σ xC 7 = 0 from hSv) ▸ ⟨by omega, by omega⟩
    | some B => exact (show σ xC 7 = 1 from hSv.1) ▸ ⟨by omega, by omega⟩
  refine r_ifne (q := 10) (q2 := 7) C (by omega) dX8_restore_4 (by decide) rfl (fun br4 => ?_) (fun br4 => ?_)
  · obtain ⟨B, rfl⟩ : ∃ B, sv = some B := by
      cases sv with
      | none => exact absurd (show σ xC 7 = 0 from hSv) (by omega)
      | some B => exact ⟨B, rfl⟩
    have hRB := hSv.2
    have hIB := hsI B rfl
    have hnB := oI_n hIB
    refine r_al0 (q := 11) C dX8_restore_10 rfl ?_
    refine r_getR (q := 14) C f_X8_10 dX8_restore_11 rfl rfl (by assumption) (by assumption) (by omega) ?_
    refine r_al0 (q := 15) C dX8_restore_14 rfl ?_
    refine r_getR (q := 18) C f_X8_16 dX8_restore_15 rfl rfl (by assumption) (by assumption) (by omega) ?_
    refine r_callVv (q := 21) C (c_X6_becomeLike hXn hXs (by omega) hRB.1 hnB.2.2.1 hRB.2.1 hnB.2.2.2 (fun j hj => ⟨nBr B j, (oHR_e hRB hj).2.2, (oI_b hIB hj).2.2.2⟩)) m_X8_424 (by assumption) (by omega) dX8_restore_18 rfl rfl (by decide) (by decide) (Nat.le_of_ble_eq_true rfl) (fun σ2 hσ2 => ?_)
    have hnew := hdLike_HR hσ2 hRB
    obtain ⟨-, -, -, -, -, -, -, hf⟩ := hσ2
    refine r_al0 (q := 22) C dX8_restore_21 rfl ?_
    refine r_getR (q := 25) C f_X8_22 dX8_restore_22 rfl rfl (by assumption) (by assumption) (by omega) ?_
    refine r_iconst (q := 26) C dX8_restore_25 rfl ?_
    refine r_putI (q := 29) C fp_X8_418 dX8_restore_26 rfl rfl (by assumption) (by omega) ?_
    refine r_al0 (q := 30) C dX8_restore_29 rfl ?_
    refine r_getR (q := 33) C f_X8_10 dX8_restore_30 rfl rfl (by assumption) (by assumption) (by omega) ?_
    refine r_getI (q := 36) C f_X8_76 dX8_restore_33 rfl rfl (by assumption) (by omega) ?_
    rw [o_up_ne (by omega), hnew.1]
    exact r_iret C hr dX8_restore_36 (by decide) (by decide) ⟨_, rfl, rfl, hnB.1, ⟨oHR_fr hnew ⟨hnB.2.2.1, hnB.2.2.2⟩ (fun x h1 h2 => o_up_ne (by omega)), oHis_nil (on := on) (by rw [o_up_nj (Or.inr (by decide)), hf _ (by omega)]; exact ho) ho9 o_up_at, fun x h1 h2 => by rw [o_up_ne (by omega)]; exact hf x (by omega), fun kx _ => by rw [o_up_ne (by omega), hf xC (by omega)], by rw [o_up_ne (by omega), hf xC (by omega)]⟩⟩
  · refine r_bipush (q := 9) C dX8_restore_7 (by decide) rfl ?_
    refine r_iret C hr dX8_restore_9 (by decide) (by decide) ?_
    cases sv with
    | none => exact ⟨_, rfl, rfl, rfl, oCk_rf hR hH⟩
    | some B => exact absurd hSv.1 (by omega)
/-- the input's shape -/
def oTx (T : oT) (iC : Nat) : Prop := T.2.1 iC = (2, 0) ∧ T.2.2 iC 0 = some (iC + 1) ∧ T.2.2 iC 4 = some (iC + 2) ∧ T.2.2 iC 5 = some (iC + 3) ∧ T.2.1 (iC + 1) = (11, 60) ∧ T.2.1 (iC + 2) = (11, 60) ∧ T.2.1 (iC + 3) = (16, 60) ∧ (∀ kx, kx < 60 → T.2.2 (iC + 3) kx = some (iC + 4 + kx) ∧ T.2.1 (iC + 4 + kx) = (10, 5)) ∧ iC + 64 ≤ T.1
/-- the signs fed: how many, which -/
def oIn (σ : oM) (iC : Nat) (nI : Nat) (fI : Nat → Int) : Prop := σ iC 1 = (nI : Int) ∧ nI ≤ 60 ∧ ∀ jx, jx < nI → σ (iC + 1) jx = fI jx ∧ 32 ≤ fI jx ∧ fI jx ≤ 126
def fAppend (nI : Nat) (fI : Nat → Int) (z : Int) : Int × Nat × (Nat → Int) := if 32 ≤ z ∧ z ≤ 126 then (if 60 ≤ nI then (-4, nI, fI) else ((nI : Int) + 1, nI + 1, updF fI nI z)) else (-2, nI, fI)
theorem oIn_fr {σ σ2 : oM} {iC nI : Nat} {fI : Nat → Int} (h : oIn σ iC nI fI) (h0 : σ2 iC 1 = σ iC 1) (h1 : σ2 (iC + 1) = σ (iC + 1)) : oIn σ2 iC nI fI := ⟨by rw [h0]; exact h.1, h.2.1, fun jx hj => by rw [h1]; exact h.2.2 jx hj⟩
set_option maxRecDepth 20000 in
set_option maxHeartbeats 8000000 in
theorem c_X2_add {T : oT} {σ : oM} {iC nI : Nat} {fI : Nat → Int} (hT2 : oTx T iC) (hI2 : oIn σ iC nI fI) (hn60 : nI < 60) {z : Int} (hz : 32 ≤ z ∧ z ≤ 126) : MS yX2_add cX2_add 2 none 0 0 0 0 [og iC, oi z] T σ (oPv (fun σ2 => σ2 = o_up (o_up σ (iC + 1) nI z) iC 1 ((nI : Int) + 1)) T) := by
  have hTc := hT2
  obtain ⟨hT0, hTr0, hTr4, hTr5, hTs, hTl, hTn, hTk, hTT⟩ := hTc
  refine o_met (by decide +kernel) (Nat.le_of_ble_eq_true rfl) (fun p l ee s m args below meth c G b C hr hn => ?_)
  have C : oCx p s m args meth c G b RX2 cX2_add 2 := C
  show oW p l ee ({ frames := 0, cells := 0, slots := 0, locals := 0 } : Room) s m args below meth c G b 2 0 0 (MQ below (o_Qc G b (oPv (fun σ2 => σ2 = o_up (o_up σ (iC + 1) nI z) iC 1 ((nI : Int) + 1)) T)) args s 0 0 (fun q => b ≤ q)) T σ 0 [some (og iC), some (oi z)] []
  refine r_al0 (q := 1) C dX2_add_0 rfl ?_
  refine r_getR (q := 4) C f_X2_9 dX2_add_1 rfl rfl (by assumption) (by assumption) (by omega) ?_
  refine r_al0 (q := 5) C dX2_add_4 rfl ?_
  refine r_getI (q := 8) C f_X2_23 dX2_add_5 rfl rfl (by assumption) (by omega) ?_
  rw [hI2.1]
  refine r_il1 (q := 9) C dX2_add_8 rfl ?_
  refine r_cast (q := 10) C (nI) dX2_add_9 rfl (by assumption) (by omega) (by omega) (by omega) (by decide) (by omega) ?_
  refine r_al0 (q := 11) C dX2_add_10 rfl ?_
  refine r_dup (q := 12) C dX2_add_11 rfl ?_
  refine r_getI (q := 15) C f_X2_23 dX2_add_12 rfl rfl (by assumption) (by omega) ?_
  rw [o_up_ne (by omega), hI2.1]
  refine r_iconst (q := 16) C dX2_add_15 rfl ?_
  refine r_iadd (q := 17) C dX2_add_16 rfl ?_
  refine r_putI (q := 20) C fp_X2_23 dX2_add_17 rfl rfl (by assumption) (by omega) ?_
  exact r_vret C hr dX2_add_20 (by decide) (by decide) ⟨rfl, rfl, rfl⟩
set_option maxRecDepth 20000 in
set_option maxHeartbeats 8000000 in
theorem c_X8_append {T : oT} {σ : oM} {xC nI : Nat} {fI : Nat → Int} (hX : oX T xC) (hT2 : oTx T (xC + 1163)) (hI2 : oIn σ (xC + 1163) nI fI) {z : Int} (hz : o_r z) : MS yX8_append cX8_append 2 (some FieldType.int) 1 0 0 22 [og xC, oi z] T σ (oPs (fun zx σ2 => zx = (fAppend nI fI z).1 ∧ oIn σ2 (xC + 1163) (fAppend nI fI z).2.1 (fAppend nI fI z).2.2 ∧ (∀ x, x ≠ xC + 1163 → x ≠ xC + 1164 → σ2 x = σ x) ∧ (∀ kx, kx ≠ 1 → σ2 (xC + 1163) kx = σ (xC + 1163) kx)) T) := by
  have hXc := hX
  obtain ⟨hX0, hXr0, hXr1, hXr2, hXr3, hXr4, hXr5, hXr6, hXn, hXs, hXy, hXq, hXk, hXb, hXbs, hXi, hXT⟩ := hXc
  have hTc := hT2
  obtain ⟨hT0, hTr0, hTr4, hTr5, hTs, hTl, hTn, hTk, hTT⟩ := hTc
  refine o_met (by decide +kernel) (Nat.le_of_ble_eq_true rfl) (fun p l ee s m args below meth c G b C hr hn => ?_)
  have C : oCx p s m args meth c G b RX8 cX8_append 2 := C
  show oW p l ee ({ frames := 1, cells := 0, slots := 0, locals := 22 } : Room) s m args below meth c G b 2 0 0 (MQ below (o_Qc G b (oPs (fun zx σ2 => zx = (fAppend nI fI z).1 ∧ oIn σ2 (xC + 1163) (fAppend nI fI z).2.1 (fAppend nI fI z).2.2 ∧ (∀ x, x ≠ xC + 1163 → x ≠ xC + 1164 → σ2 x = σ x) ∧ (∀ kx, kx ≠ 1 → σ2 (xC + 1163) kx = σ (xC + 1163) kx)) T)) args s 0 0 (fun q => b ≤ q)) T σ 0 [some (og xC), some (oi z)] []
  refine r_il1 (q := 1) C dX8_append_0 rfl ?_
  refine r_bipush (q := 3) C dX8_append_1 (by decide) rfl ?_
  refine r_bipush (q := 5) C dX8_append_3 (by decide) rfl ?_
  refine r_callSb (q := 8) C (c_X8_within hz (by omega) (by omega)) m_X8_68 dX8_append_5 rfl rfl (by decide) (by decide) (Nat.le_of_ble_eq_true rfl) (fun br5 => ?_) (fun br5 => ?_)
  · refine r_ifne_t (q := 14) C (by decide) (by omega) dX8_append_8 (by decide) ?_
    have hs := fAppend.eq_1 nI fI z
    rw [if_pos br5] at hs
    have hn6 := hI2.2.1
    refine r_al0 (q := 15) C dX8_append_14 rfl ?_
    refine r_getR (q := 18) C f_X8_50 dX8_append_15 rfl rfl (by assumption) (by assumption) (by omega) ?_
    refine r_getI (q := 21) C f_X8_380 dX8_append_18 rfl rfl (by assumption) (by omega) ?_
    rw [hI2.1]
    refine r_bipush (q := 23) C dX8_append_21 (by decide) rfl ?_
    refine r_iclt (q := 29) (q2 := 26) C (by omega) (by omega) dX8_append_23 (by decide) rfl (fun br23 => ?_) (fun br23 => ?_)
    · rw [if_neg (by omega)] at hs
      refine r_al0 (q := 30) C dX8_append_29 rfl ?_
      refine r_getR (q := 33) C f_X8_50 dX8_append_30 rfl rfl (by assumption) (by assumption) (by omega) ?_
      refine r_il1 (q := 34) C dX8_append_33 rfl ?_
      refine r_i2c (q := 35) C ⟨by omega, by omega⟩ dX8_append_34 rfl ?_
      refine r_callVv (q := 38) C (c_X2_add hT2 hI2 (by omega) br5) m_X8_383 (by assumption) (by omega) dX8_append_35 rfl rfl (by decide) (by decide) (Nat.le_of_ble_eq_true rfl) (fun σ2 hσ2 => ?_)
      subst hσ2
      refine r_al0 (q := 39) C dX8_append_38 rfl ?_
      refine r_getR (q := 42) C f_X8_50 dX8_append_39 rfl rfl (by assumption) (by assumption) (by omega) ?_
      refine r_getI (q := 45) C f_X8_380 dX8_append_42 rfl rfl (by assumption) (by omega) ?_
      refine r_iret C hr dX8_append_45 (by decide) (by decide) ?_
      refine ⟨_, rfl, rfl, by rw [hs]; exact o_up_at, ?_, fun x h1 h2 => by rw [o_up_ne h1, o_up_ne (by omega)], fun kx hk => by rw [o_up_nj (Or.inr hk), o_up_ne (by omega)]⟩
      rw [hs]
      refine ⟨by show o_up _ _ _ _ _ _ = _; rw [o_up_at]; rfl, by show nI + 1 ≤ 60; omega, fun jx hj => ?_⟩
      show o_up _ _ _ _ _ jx = updF fI nI z jx ∧ 32 ≤ updF fI nI z jx ∧ updF fI nI z jx ≤ 126
      have hj2 : jx < nI + 1 := hj
      by_cases hc : jx = nI
      · rw [hc, updF_at, o_up_ne (by omega), o_up_at]
        exact ⟨rfl, br5⟩
      · rw [updF_ne hc, o_up_ne (by omega), o_up_nj (Or.inr hc)]
        exact hI2.2.2 jx (by omega)
    · refine r_bipush (q := 28) C dX8_append_26 (by decide) rfl ?_
      exact r_iret C hr dX8_append_28 (by decide) (by decide) ⟨_, rfl, rfl, by rw [hs, if_pos (by omega)], by rw [hs, if_pos (by omega)]; exact ⟨hI2, fun _ _ _ => rfl, fun _ _ => rfl⟩⟩
  · refine r_ifne_f (q := 14) (q2 := 11) C (by decide) (by omega) dX8_append_8 (by decide) rfl ?_
    refine r_bipush (q := 13) C dX8_append_11 (by decide) rfl ?_
    exact r_iret C hr dX8_append_13 (by decide) (by decide) ⟨_, rfl, rfl, by rw [fAppend, if_neg br5], by rw [fAppend, if_neg br5]; exact ⟨hI2, fun _ _ _ => rfl, fun _ _ => rfl⟩⟩
