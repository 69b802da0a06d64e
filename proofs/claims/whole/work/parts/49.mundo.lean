def oSM (σ : oM) (mC : Nat) : Option (Nat → Int) → Prop
  | none => σ mC 6 = 0
  | some B => σ mC 6 = 1 ∧ ∀ x, x < 5055 → σ (mC + 2) x = B x
set_option maxRecDepth 20000 in
set_option maxHeartbeats 8000000 in
theorem c_X9_undo {T : oT} {σ : oM} {mC : Nat} (hM : oMm T mC) {Bd : Int} (hI : oI Bd (σ (mC + 1))) {Lh : List (Nat → Int)} (hH : oMH σ mC Lh) : MS yX9_undo cX9_undo 1 (some FieldType.int) 1 0 0 24 [og mC] T σ (oPs (fun zx σ2 => zx = (fUndo (σ (mC + 1)) Lh).1 ∧ (∀ x, x < 5055 → σ2 (mC + 1) x = (fUndo (σ (mC + 1)) Lh).2.1 x) ∧ oMH σ2 mC (fUndo (σ (mC + 1)) Lh).2.2 ∧ (∀ x, x ≠ mC → x ≠ mC + 1 → σ2 x = σ x) ∧ ∀ k, k ≠ 4 → σ2 mC k = σ mC k) T) := by
  have hMc := hM
  obtain ⟨hM0, hMr0, hMr1, hMr2, hMr3, hMr8, hMr9, hMr10, hMr11, hMr13, hMr14, hMr15, hMr16, hMr17, hMr18, hMr19, hMr20, hMk1, hMk2, hMk3, hMk4, hMk5, hMk6, hMk7, hMk8, hMk9, hMk10, hMk11, hMk12, hMk13, hMk14, hMk15, hMk16, hMT⟩ := hMc
  have hI0 := hI.2.1
  have hI1 := hI.2.2.1
  have hI2 := hI.2.2.2.1
  have hIn := oI_n hI
  have hIB := hI.1
  refine o_met (by decide +kernel) (Nat.le_of_ble_eq_true rfl) (fun p l ee s m args below meth c G b C hr hn => ?_)
  have C : oCx p s m args meth c G b RX9 cX9_undo 1 := C
  show oW p l ee ({ frames := 1, cells := 0, slots := 0, locals := 24 } : Room) s m args below meth c G b 1 0 0 (MQ below (o_Qc G b (oPs (fun zx σ2 => zx = (fUndo (σ (mC + 1)) Lh).1 ∧ (∀ x, x < 5055 → σ2 (mC + 1) x = (fUndo (σ (mC + 1)) Lh).2.1 x) ∧ oMH σ2 mC (fUndo (σ (mC + 1)) Lh).2.2 ∧ (∀ x, x ≠ mC → x ≠ mC + 1 → σ2 x = σ x) ∧ ∀ k, k ≠ 4 → σ2 mC k = σ mC k) T)) args s 0 0 (fun q => b ≤ q)) T σ 0 [some (og mC)] []
  refine r_al0 (q := 1) C dX9_undo_0 rfl ?_
  refine r_getI (q := 4) C f_X9_23 dX9_undo_1 rfl rfl (by assumption) (by omega) ?_
  have hH8 := hH.2.1
  rw [hH.1]
  refine r_ifne (q := 10) (q2 := 7) C (by omega) dX9_undo_4 (by decide) rfl (fun br4 => ?_) (fun br4 => ?_)
  · obtain ⟨tn, htn⟩ : ∃ tn, Lh.length = tn + 1 := ⟨Lh.length - 1, by omega⟩
    obtain ⟨B, hLB⟩ : ∃ B, Lh[tn]? = some B := ⟨Lh[tn]'(by omega), List.getElem?_eq_getElem (by omega)⟩
    have hs := fUndo_s (A := σ (mC + 1)) htn hLB
    refine r_al0 (q := 11) C dX9_undo_10 rfl ?_
    refine r_dup (q := 12) C dX9_undo_11 rfl ?_
    refine r_getI (q := 15) C f_X9_23 dX9_undo_12 rfl rfl (by assumption) (by omega) ?_
    rw [hH.1]
    refine r_iconst (q := 16) C dX9_undo_15 rfl ?_
    refine r_isub (q := 17) C dX9_undo_16 rfl ?_
    rw [show ((Lh.length : Nat) : Int) - 1 = ((tn : Nat) : Int) by omega]
    refine r_putI (q := 20) C fp_X9_23 dX9_undo_17 rfl rfl (by assumption) (by omega) ?_
    refine r_al0 (q := 21) C dX9_undo_20 rfl ?_
    refine r_getR (q := 24) C f_X9_20 dX9_undo_21 rfl rfl (by assumption) (by assumption) (by omega) ?_
    refine r_sipush (q := 27) C dX9_undo_24 (by decide) rfl ?_
    refine r_al0 (q := 28) C dX9_undo_27 rfl ?_
    refine r_getI (q := 31) C f_X9_23 dX9_undo_28 rfl rfl (by assumption) (by omega) ?_
    rw [o_up_at]
    refine r_imul (q := 32) C dX9_undo_31 rfl ?_
    refine r_al0 (q := 33) C dX9_undo_32 rfl ?_
    refine r_getR (q := 36) C f_X9_9 dX9_undo_33 rfl rfl (by assumption) (by assumption) (by omega) ?_
    refine r_iconst (q := 37) C dX9_undo_36 rfl ?_
    rw [show (5055 : Int) * ((tn : Nat) : Int) = ((5055 * tn : Nat) : Int) by omega]
    refine r_callSv (q := 40) C (c_X9_copies (aC := mC + 4) (bC := mC + 1) (fN := 5055 * tn) (tN := 0) (la := 40440) (lb := 5055) (by assumption) (by assumption) (by omega) (by omega) (by omega) (by omega) (by decide) (by decide) (Or.inl (by omega))) m_X9_97 dX9_undo_37 rfl rfl (by decide) (by decide) (Nat.le_of_ble_eq_true rfl) (fun σ2 hσ2 => ?_)
    have hf2 : ∀ x, x ≠ mC → x ≠ mC + 1 → σ2 x = σ x := fun x x1 x2 => by rw [hσ2, o_cpy_ne x2, o_up_ne x1]
    have hm2 : σ2 mC = o_up σ mC 4 (tn : Int) mC := by rw [hσ2, o_cpy_ne (by omega)]
    refine r_al0 (q := 41) C dX9_undo_40 rfl ?_
    refine r_getI (q := 44) C f_X9_23 dX9_undo_41 rfl rfl (by assumption) (by omega) ?_
    rw [hm2, o_up_at]
    have hA2 : ∀ x, x < 5055 → σ2 (mC + 1) x = B x := fun x hx => by
      rw [hσ2, show x = 0 + x by omega, o_cpy_in hx, o_up_ne (by omega), hH.2.2 tn B hLB x hx, Nat.zero_add]
    have hH2 : oMH σ2 mC Lh.dropLast := by
      refine ⟨by rw [hm2, o_up_at, List.length_dropLast]; omega, by rw [List.length_dropLast]; omega, fun kx C0x hB x hx => ?_⟩
      have hk := (List.getElem?_eq_some_iff.mp hB).1
      rw [List.length_dropLast] at hk
      rw [List.getElem?_dropLast, if_pos (by omega)] at hB
      rw [hf2 (mC + 4) (by omega) (by omega)]
      exact hH.2.2 kx C0x hB x hx
    exact r_iret C hr dX9_undo_44 (by decide) (by decide) ⟨_, rfl, rfl, by rw [hs]; show (tn : Int) = (Lh.length : Int) - 1; omega, by rw [hs]; exact hA2, by rw [hs]; exact hH2, hf2, fun k hk => by rw [hm2, o_up_nj (Or.inr hk)]⟩
  · refine r_bipush (q := 9) C dX9_undo_7 (by decide) rfl ?_
    exact r_iret C hr dX9_undo_9 (by decide) (by decide) ⟨_, rfl, rfl, by rw [fUndo_0 (by omega)], by rw [fUndo_0 (by omega)]; exact fun _ _ => rfl, by rw [fUndo_0 (by omega)]; exact hH, fun _ _ _ => rfl, fun _ _ => rfl⟩
set_option maxRecDepth 20000 in
set_option maxHeartbeats 8000000 in
theorem c_X9_save {T : oT} {σ : oM} {mC : Nat} (hM : oMm T mC) {Bd : Int} (hI : oI Bd (σ (mC + 1))) : MS yX9_save cX9_save 1 (some FieldType.int) 1 0 0 24 [og mC] T σ (oPs (fun zx σ2 => zx = (σ (mC + 1)) 0 ∧ σ2 mC 6 = 1 ∧ (∀ x, x < 5055 → σ2 (mC + 2) x = (σ (mC + 1)) x) ∧ (∀ x, x ≠ mC → x ≠ mC + 2 → σ2 x = σ x) ∧ ∀ k, k ≠ 6 → σ2 mC k = σ mC k) T) := by
  have hMc := hM
  obtain ⟨hM0, hMr0, hMr1, hMr2, hMr3, hMr8, hMr9, hMr10, hMr11, hMr13, hMr14, hMr15, hMr16, hMr17, hMr18, hMr19, hMr20, hMk1, hMk2, hMk3, hMk4, hMk5, hMk6, hMk7, hMk8, hMk9, hMk10, hMk11, hMk12, hMk13, hMk14, hMk15, hMk16, hMT⟩ := hMc
  have hI0 := hI.2.1
  have hI1 := hI.2.2.1
  have hI2 := hI.2.2.2.1
  have hIn := oI_n hI
  have hIB := hI.1
  refine o_met (by decide +kernel) (Nat.le_of_ble_eq_true rfl) (fun p l ee s m args below meth c G b C hr hn => ?_)
  have C : oCx p s m args meth c G b RX9 cX9_save 1 := C
  show oW p l ee ({ frames := 1, cells := 0, slots := 0, locals := 24 } : Room) s m args below meth c G b 1 0 0 (MQ below (o_Qc G b (oPs (fun zx σ2 => zx = (σ (mC + 1)) 0 ∧ σ2 mC 6 = 1 ∧ (∀ x, x < 5055 → σ2 (mC + 2) x = (σ (mC + 1)) x) ∧ (∀ x, x ≠ mC → x ≠ mC + 2 → σ2 x = σ x) ∧ ∀ k, k ≠ 6 → σ2 mC k = σ mC k) T)) args s 0 0 (fun q => b ≤ q)) T σ 0 [some (og mC)] []
  refine r_al0 (q := 1) C dX9_save_0 rfl ?_
  refine r_getR (q := 4) C f_X9_9 dX9_save_1 rfl rfl (by assumption) (by assumption) (by omega) ?_
  refine r_iconst (q := 5) C dX9_save_4 rfl ?_
  refine r_al0 (q := 6) C dX9_save_5 rfl ?_
  refine r_getR (q := 9) C f_X9_13 dX9_save_6 rfl rfl (by assumption) (by assumption) (by omega) ?_
  refine r_iconst (q := 10) C dX9_save_9 rfl ?_
  refine r_callSv (q := 13) C (c_X9_copies (aC := mC + 1) (bC := mC + 2) (fN := 0) (tN := 0) (la := 5055) (lb := 5055) (by assumption) (by assumption) (by omega) (by omega) (by omega) (by omega) (by decide) (by decide) (Or.inl (by omega))) m_X9_97 dX9_save_10 rfl rfl (by decide) (by decide) (Nat.le_of_ble_eq_true rfl) (fun σ2 hσ2 => ?_)
  refine r_al0 (q := 14) C dX9_save_13 rfl ?_
  refine r_iconst (q := 15) C dX9_save_14 rfl ?_
  refine r_putZ (q := 18) C fp_X9_30 dX9_save_15 rfl rfl (by decide) (by assumption) (by omega) ?_
  refine r_al0 (q := 19) C dX9_save_18 rfl ?_
  refine r_getR (q := 22) C f_X9_9 dX9_save_19 rfl rfl (by assumption) (by assumption) (by omega) ?_
  refine r_iconst (q := 23) C dX9_save_22 rfl ?_
  refine r_iald (q := 24) C (0) dX9_save_23 rfl (by assumption) (by omega) (by omega) (by omega) (by decide) ?_
  rw [o_up_ne (by omega), hσ2, o_cpy_ne (by omega)]
  exact r_iret C hr dX9_save_24 (by decide) (by decide) ⟨_, rfl, rfl, rfl, o_up_at, fun x hx => by rw [o_up_ne (by omega), show x = 0 + x by omega, o_cpy_in hx], fun x x1 x2 => by rw [o_up_ne x1, o_cpy_ne x2], fun k hk => by rw [o_up_nj (Or.inr hk), o_cpy_ne (by omega)]⟩
set_option maxRecDepth 20000 in
set_option maxHeartbeats 8000000 in
theorem c_X9_restore {T : oT} {σ : oM} {mC : Nat} (hM : oMm T mC) {Bd : Int} (hI : oI Bd (σ (mC + 1))) {Lh : List (Nat → Int)} (hH : oMH σ mC Lh) {sv : Option (Nat → Int)} (hSv : oSM σ mC sv) : MS yX9_restore cX9_restore 1 (some FieldType.int) 1 0 0 24 [og mC] T σ (oPs (fun zx σ2 => zx = (fRestore (σ (mC + 1)) Lh sv).1 ∧ (∀ x, x < 5055 → σ2 (mC + 1) x = (fRestore (σ (mC + 1)) Lh sv).2.1 x) ∧ oMH σ2 mC (fRestore (σ (mC + 1)) Lh sv).2.2 ∧ (∀ x, x ≠ mC → x ≠ mC + 1 → σ2 x = σ x) ∧ ∀ k, k ≠ 4 → σ2 mC k = σ mC k) T) := by
  have hMc := hM
  obtain ⟨hM0, hMr0, hMr1, hMr2, hMr3, hMr8, hMr9, hMr10, hMr11, hMr13, hMr14, hMr15, hMr16, hMr17, hMr18, hMr19, hMr20, hMk1, hMk2, hMk3, hMk4, hMk5, hMk6, hMk7, hMk8, hMk9, hMk10, hMk11, hMk12, hMk13, hMk14, hMk15, hMk16, hMT⟩ := hMc
  have hI0 := hI.2.1
  have hI1 := hI.2.2.1
  have hI2 := hI.2.2.2.1
  have hIn := oI_n hI
  have hIB := hI.1
  refine o_met (by decide +kernel) (Nat.le_of_ble_eq_true rfl) (fun p l ee s m args below meth c G b C hr hn => ?_)
  have C : oCx p s m args meth c G b RX9 cX9_restore 1 := C
  show oW p l ee ({ frames := 1, cells := 0, slots := 0, locals := 24 } : Room) s m args below meth c G b 1 0 0 (MQ below (o_Qc G b (oPs (fun zx σ2 => zx = (fRestore (σ (mC + 1)) Lh sv).1 ∧ (∀ x, x < 5055 → σ2 (mC + 1) x = (fRestore (σ (mC + 1)) Lh sv).2.1 x) ∧ oMH σ2 mC (fRestore (σ (mC + 1)) Lh sv).2.2 ∧ (∀ x, x ≠ mC → x ≠ mC + 1 → σ2 x = σ x) ∧ ∀ k, k ≠ 4 → σ2 mC k = σ mC k) T)) args s 0 0 (fun q => b ≤ q)) T σ 0 [some (og mC)] []
  refine r_al0 (q := 1) C dX9_restore_0 rfl ?_
  refine r_getI (q := 4) C f_X9_30 dX9_restore_1 rfl rfl (by assumption) (by omega) ?_
  have h6r : o_r (σ mC 6) := by
    cases sv with
    | none => exact (show σ mC 6 = 0 from hSv) ▸ ⟨by omega, by omega⟩
    | some B => exact (show σ mC 6 = 1 from hSv.1) ▸ ⟨by omega, by omega⟩
  refine r_ifne (q := 10) (q2 := 7) C (by omega) dX9_restore_4 (by decide) rfl (fun br4 => ?_) (fun br4 => ?_)
  · obtain ⟨B, rfl⟩ : ∃ B, sv = some B := by
      cases sv with
      | none => exact absurd (show σ mC 6 = 0 from hSv) (by omega)
      | some B => exact ⟨B, rfl⟩
    refine r_al0 (q := 11) C dX9_restore_10 rfl ?_
    refine r_getR (q := 14) C f_X9_13 dX9_restore_11 rfl rfl (by assumption) (by assumption) (by omega) ?_
    refine r_iconst (q := 15) C dX9_restore_14 rfl ?_
    refine r_al0 (q := 16) C dX9_restore_15 rfl ?_
    refine r_getR (q := 19) C f_X9_9 dX9_restore_16 rfl rfl (by assumption) (by assumption) (by omega) ?_
    refine r_iconst (q := 20) C dX9_restore_19 rfl ?_
    refine r_callSv (q := 23) C (c_X9_copies (aC := mC + 2) (bC := mC + 1) (fN := 0) (tN := 0) (la := 5055) (lb := 5055) (by assumption) (by assumption) (by omega) (by omega) (by omega) (by omega) (by decide) (by decide) (Or.inl (by omega))) m_X9_97 dX9_restore_20 rfl rfl (by decide) (by decide) (Nat.le_of_ble_eq_true rfl) (fun σ2 hσ2 => ?_)
    refine r_al0 (q := 24) C dX9_restore_23 rfl ?_
    refine r_iconst (q := 25) C dX9_restore_24 rfl ?_
    refine r_putI (q := 28) C fp_X9_23 dX9_restore_25 rfl rfl (by assumption) (by omega) ?_
    refine r_al0 (q := 29) C dX9_restore_28 rfl ?_
    refine r_getR (q := 32) C f_X9_9 dX9_restore_29 rfl rfl (by assumption) (by assumption) (by omega) ?_
    refine r_iconst (q := 33) C dX9_restore_32 rfl ?_
    refine r_iald (q := 34) C (0) dX9_restore_33 rfl (by assumption) (by omega) (by omega) (by omega) (by decide) ?_
    have hAx : ∀ x, x < 5055 → o_up σ2 mC 4 0 (mC + 1) x = B x := fun x hx => by rw [o_up_ne (by omega), hσ2, show x = 0 + x by omega, o_cpy_in hx, hSv.2 (0 + x) (by omega)]
    rw [hAx 0 (by omega)]
    exact r_iret C hr dX9_restore_34 (by decide) (by decide) ⟨_, rfl, rfl, rfl, hAx, ⟨by rw [o_up_at]; rfl, Nat.zero_le _, fun kx C0x hB => by have q : ([] : List (Nat → Int))[kx]? = some C0x := hB; simp at q⟩, fun x x1 x2 => by rw [o_up_ne x1, hσ2, o_cpy_ne x2], fun k hk => by rw [o_up_nj (Or.inr hk), hσ2, o_cpy_ne (by omega)]⟩
  · refine r_bipush (q := 9) C dX9_restore_7 (by decide) rfl ?_
    refine r_iret C hr dX9_restore_9 (by decide) (by decide) ?_
    cases sv with
    | none => exact ⟨_, rfl, rfl, rfl, fun _ _ => rfl, hH, fun _ _ _ => rfl, fun _ _ => rfl⟩
    | some B => exact absurd hSv.1 (by omega)
set_option maxRecDepth 20000 in
set_option maxHeartbeats 8000000 in
theorem c_X9_append {T : oT} {σ : oM} {mC : Nat} (hM : oMm T mC) {nI : Nat} (hnf : σ mC 21 = (nI : Int)) (hn60 : nI ≤ 60) {z : Int} (hz : o_r z) : MS yX9_append cX9_append 2 (some FieldType.int) 1 0 0 22 [og mC, oi z] T σ (oPs (fun zx σ2 => zx = (fAppend nI (σ (mC + 14)) z).1 ∧ σ2 mC 21 = ((fAppend nI (σ (mC + 14)) z).2.1 : Int) ∧ σ2 (mC + 14) = (fAppend nI (σ (mC + 14)) z).2.2 ∧ (∀ x, x ≠ mC → x ≠ mC + 14 → σ2 x = σ x) ∧ ∀ k, k ≠ 21 → σ2 mC k = σ mC k) T) := by
  have hMc := hM
  obtain ⟨hM0, hMr0, hMr1, hMr2, hMr3, hMr8, hMr9, hMr10, hMr11, hMr13, hMr14, hMr15, hMr16, hMr17, hMr18, hMr19, hMr20, hMk1, hMk2, hMk3, hMk4, hMk5, hMk6, hMk7, hMk8, hMk9, hMk10, hMk11, hMk12, hMk13, hMk14, hMk15, hMk16, hMT⟩ := hMc
  refine o_met (by decide +kernel) (Nat.le_of_ble_eq_true rfl) (fun p l ee s m args below meth c G b C hr hn => ?_)
  have C : oCx p s m args meth c G b RX9 cX9_append 2 := C
  show oW p l ee ({ frames := 1, cells := 0, slots := 0, locals := 22 } : Room) s m args below meth c G b 2 0 0 (MQ below (o_Qc G b (oPs (fun zx σ2 => zx = (fAppend nI (σ (mC + 14)) z).1 ∧ σ2 mC 21 = ((fAppend nI (σ (mC + 14)) z).2.1 : Int) ∧ σ2 (mC + 14) = (fAppend nI (σ (mC + 14)) z).2.2 ∧ (∀ x, x ≠ mC → x ≠ mC + 14 → σ2 x = σ x) ∧ ∀ k, k ≠ 21 → σ2 mC k = σ mC k) T)) args s 0 0 (fun q => b ≤ q)) T σ 0 [some (og mC), some (oi z)] []
  refine r_il1 (q := 1) C dX9_append_0 rfl ?_
  refine r_bipush (q := 3) C dX9_append_1 (by decide) rfl ?_
  refine r_bipush (q := 5) C dX9_append_3 (by decide) rfl ?_
  refine r_callSb (q := 8) C (c_X9_in hz (by omega) (by omega)) m_X9_108 dX9_append_5 rfl rfl (by decide) (by decide) (Nat.le_of_ble_eq_true rfl) (fun br5 => ?_) (fun br5 => ?_)
  · refine r_ifne_t (q := 14) C (by decide) (by omega) dX9_append_8 (by decide) ?_
    have hs := fAppend.eq_1 nI (σ (mC + 14)) z
    rw [if_pos br5] at hs
    refine r_al0 (q := 15) C dX9_append_14 rfl ?_
    refine r_getI (q := 18) C f_X9_76 dX9_append_15 rfl rfl (by assumption) (by omega) ?_
    rw [hnf]
    refine r_bipush (q := 20) C dX9_append_18 (by decide) rfl ?_
    refine r_icne (q := 26) (q2 := 23) C (by omega) (by omega) dX9_append_20 (by decide) rfl (fun br20 => ?_) (fun br20 => ?_)
    · rw [if_neg (by omega)] at hs
      refine r_al0 (q := 27) C dX9_append_26 rfl ?_
      refine r_getR (q := 30) C f_X9_67 dX9_append_27 rfl rfl (by assumption) (by assumption) (by omega) ?_
      refine r_al0 (q := 31) C dX9_append_30 rfl ?_
      refine r_getI (q := 34) C f_X9_76 dX9_append_31 rfl rfl (by assumption) (by omega) ?_
      rw [hnf]
      refine r_il1 (q := 35) C dX9_append_34 rfl ?_
      refine r_iast (q := 36) C (nI) dX9_append_35 rfl (by assumption) (by omega) (by omega) (by omega) (by decide) ?_
      refine r_al0 (q := 37) C dX9_append_36 rfl ?_
      refine r_dup (q := 38) C dX9_append_37 rfl ?_
      refine r_getI (q := 41) C f_X9_76 dX9_append_38 rfl rfl (by assumption) (by omega) ?_
      rw [o_up_ne (by omega), hnf]
      refine r_iconst (q := 42) C dX9_append_41 rfl ?_
      refine r_iadd (q := 43) C dX9_append_42 rfl ?_
      refine r_putI (q := 46) C fp_X9_76 dX9_append_43 rfl rfl (by assumption) (by omega) ?_
      refine r_al0 (q := 47) C dX9_append_46 rfl ?_
      refine r_getI (q := 50) C f_X9_76 dX9_append_47 rfl rfl (by assumption) (by omega) ?_
      rw [o_up_at]
      exact r_iret C hr dX9_append_50 (by decide) (by decide) ⟨_, rfl, rfl, by rw [hs], by rw [hs, o_up_at]; rfl, by rw [hs, o_up_ne (by omega), o_upF], fun x x1 x2 => by rw [o_up_ne x1, o_up_ne x2], fun k hk => by rw [o_up_nj (Or.inr hk), o_up_ne (by omega)]⟩
    · refine r_bipush (q := 25) C dX9_append_23 (by decide) rfl ?_
      exact r_iret C hr dX9_append_25 (by decide) (by decide) ⟨_, rfl, rfl, by rw [hs, if_pos (by omega)], by rw [hs, if_pos (by omega)]; exact hnf, by rw [hs, if_pos (by omega)], fun _ _ _ => rfl, fun _ _ => rfl⟩
  · refine r_ifne_f (q := 14) (q2 := 11) C (by decide) (by omega) dX9_append_8 (by decide) rfl ?_
    refine r_bipush (q := 13) C dX9_append_11 (by decide) rfl ?_
    exact r_iret C hr dX9_append_13 (by decide) (by decide) ⟨_, rfl, rfl, by rw [fAppend, if_neg br5], by rw [fAppend, if_neg br5]; exact hnf, by rw [fAppend, if_neg br5], fun _ _ _ => rfl, fun _ _ => rfl⟩
