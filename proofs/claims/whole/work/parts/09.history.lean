set_option maxRecDepth 20000 in
set_option maxHeartbeats 8000000 in
theorem c_X5_spareRow {T : oT} {σ : oM} {yC on sn : Nat} (hY : oHy T yC) (ho : σ yC 1 = (on : Int)) (ho9 : on < 9) (hsz : σ yC 2 = (sn : Int)) (hs8 : sn ≤ 8) : MS yX5_spareRow cX5_spareRow 1 (some (FieldType.object "OrchestraLibrary$Holdings")) 0 0 0 0 [og yC] T σ (oP1 (og (yC + 2 + 104 * ((on + sn) % 9))) T σ) := by
  have hYc := hY
  obtain ⟨hY0, hYr, hY1, hYs, hYT⟩ := hYc
  refine o_met (by decide +kernel) (Nat.le_of_ble_eq_true rfl) (fun p l ee s m args below meth c G b C hr hn => ?_)
  have C : oCx p s m args meth c G b RX5 cX5_spareRow 1 := C
  show oW p l ee ({ frames := 0, cells := 0, slots := 0, locals := 0 } : Room) s m args below meth c G b 1 0 0 (MQ below (o_Qc G b (oP1 (og (yC + 2 + 104 * ((on + sn) % 9))) T σ)) args s 0 0 (fun q => b ≤ q)) T σ 0 [some (og yC)] []
  refine r_al0 (q := 1) C dX5_spareRow_0 rfl ?_
  refine r_getR (q := 4) C f_X5_13 dX5_spareRow_1 rfl rfl (by assumption) (by assumption) (by omega) ?_
  refine r_al0 (q := 5) C dX5_spareRow_4 rfl ?_
  refine r_getI (q := 8) C f_X5_30 dX5_spareRow_5 rfl rfl (by assumption) (by omega) ?_
  refine r_al0 (q := 9) C dX5_spareRow_8 rfl ?_
  refine r_getI (q := 12) C f_X5_26 dX5_spareRow_9 rfl rfl (by assumption) (by omega) ?_
  refine r_iadd (q := 13) C dX5_spareRow_12 rfl ?_
  refine r_bipush (q := 15) C dX5_spareRow_13 (by decide) rfl ?_
  refine r_irem (q := 16) (z := ((((on + sn) % 9 : Nat)) : Int)) C (by omega) (by omega) (by omega) dX5_spareRow_15 rfl ?_
  have hYr0 := (hYs ((on + sn) % 9) (by omega)).1
  refine r_aald (q := 17) C (((on + sn) % 9)) dX5_spareRow_16 rfl (by assumption) (by omega) (by omega) (by omega) (by decide) (by assumption) rfl rfl (by decide) (by decide) ?_
  exact r_aret C hr dX5_spareRow_17 (by decide) (by decide) ⟨rfl, rfl, rfl⟩
set_option maxRecDepth 20000 in
set_option maxHeartbeats 8000000 in
theorem c_X5_prepare {T : oT} {σ : oM} {yC on sn sC Nn Mn : Nat} (hY : oHy T yC) (ho : σ yC 1 = (on : Int)) (ho9 : on < 9) (hsz : σ yC 2 = (sn : Int)) (hs8 : sn ≤ 8) (hS : oHd T sC) (hdis : sC + 104 ≤ yC ∨ yC + 938 ≤ sC) (hNn : σ sC 0 = (Nn : Int)) (hN6 : Nn ≤ 6) (hMn : σ sC 5 = (Mn : Int)) (hM20 : Mn ≤ 20) (hbs : ∀ jx, jx < Nn → ∃ Bn : Nat, σ (sC + 2 + 13 * jx) 2 = (Bn : Int) ∧ Bn ≤ 99) : MS yX5_prepare cX5_prepare 2 none 4 0 0 96 [og yC, og sC] T σ (oPv (fun σ2 => hdLike σ2 (yC + 2 + 104 * ((on + sn) % 9)) σ sC Nn Mn) T) := by
  have hYc := hY
  obtain ⟨hY0, hYr, hY1, hYs, hYT⟩ := hYc
  refine o_met (by decide +kernel) (Nat.le_of_ble_eq_true rfl) (fun p l ee s m args below meth c G b C hr hn => ?_)
  have C : oCx p s m args meth c G b RX5 cX5_prepare 2 := C
  show oW p l ee ({ frames := 4, cells := 0, slots := 0, locals := 96 } : Room) s m args below meth c G b 2 0 0 (MQ below (o_Qc G b (oPv (fun σ2 => hdLike σ2 (yC + 2 + 104 * ((on + sn) % 9)) σ sC Nn Mn) T)) args s 0 0 (fun q => b ≤ q)) T σ 0 [some (og yC), some (og sC)] []
  refine r_al0 (q := 1) C dX5_prepare_0 rfl ?_
  refine r_callV1 (q := 4) C (c_X5_spareRow hY ho ho9 hsz hs8) m_X5_18 (by assumption) (by omega) dX5_prepare_1 rfl rfl (by decide) (by decide) (Nat.le_of_ble_eq_true rfl) ?_
  refine r_al1 (q := 5) C dX5_prepare_4 rfl ?_
  have hYr2 := (hYs ((on + sn) % 9) (by omega)).2
  have hYr3 := hYr2.1
  refine r_callVv (q := 8) C (c_X6_becomeLike hYr2 hS (by omega) hNn hN6 hMn hM20 hbs) m_X5_22 (by assumption) (by omega) dX5_prepare_5 rfl rfl (by decide) (by decide) (Nat.le_of_ble_eq_true rfl) (fun σ2 hσ2 => ?_)
  exact r_vret C hr dX5_prepare_8 (by decide) (by decide) ⟨rfl, rfl, hσ2⟩
set_option maxRecDepth 20000 in
set_option maxHeartbeats 8000000 in
theorem c_X5_commit {T : oT} {σ : oM} {yC on sn : Nat} (hY : oHy T yC) (ho : σ yC 1 = (on : Int)) (ho9 : on < 9) (hsz : σ yC 2 = (sn : Int)) (hs8 : sn ≤ 8) : MS yX5_commit cX5_commit 1 none 0 0 0 0 [og yC] T σ (oPv (fun σ2 => σ2 = if sn < 8 then o_up σ yC 2 ((sn : Int) + 1) else o_up σ yC 1 ((((on + 1) % 9 : Nat)) : Int)) T) := by
  have hYc := hY
  obtain ⟨hY0, hYr, hY1, hYs, hYT⟩ := hYc
  refine o_met (by decide +kernel) (Nat.le_of_ble_eq_true rfl) (fun p l ee s m args below meth c G b C hr hn => ?_)
  have C : oCx p s m args meth c G b RX5 cX5_commit 1 := C
  show oW p l ee ({ frames := 0, cells := 0, slots := 0, locals := 0 } : Room) s m args below meth c G b 1 0 0 (MQ below (o_Qc G b (oPv (fun σ2 => σ2 = if sn < 8 then o_up σ yC 2 ((sn : Int) + 1) else o_up σ yC 1 ((((on + 1) % 9 : Nat)) : Int)) T)) args s 0 0 (fun q => b ≤ q)) T σ 0 [some (og yC)] []
  refine r_al0 (q := 1) C dX5_commit_0 rfl ?_
  refine r_getI (q := 4) C f_X5_26 dX5_commit_1 rfl rfl (by assumption) (by omega) ?_
  refine r_bipush (q := 6) C dX5_commit_4 (by decide) rfl ?_
  refine r_icge (q := 22) (q2 := 9) C (by omega) (by omega) dX5_commit_6 (by decide) rfl (fun br6 => ?_) (fun br6 => ?_)
  · refine r_al0 (q := 23) C dX5_commit_22 rfl ?_
    refine r_al0 (q := 24) C dX5_commit_23 rfl ?_
    refine r_getI (q := 27) C f_X5_30 dX5_commit_24 rfl rfl (by assumption) (by omega) ?_
    refine r_iconst (q := 28) C dX5_commit_27 rfl ?_
    refine r_iadd (q := 29) C dX5_commit_28 rfl ?_
    refine r_bipush (q := 31) C dX5_commit_29 (by decide) rfl ?_
    refine r_irem (q := 32) (z := ((((on + 1) % 9 : Nat)) : Int)) C (by omega) (by omega) (by omega) dX5_commit_31 rfl ?_
    refine r_putI (q := 35) C fp_X5_30 dX5_commit_32 rfl rfl (by assumption) (by omega) ?_
    exact r_vret C hr dX5_commit_35 (by decide) (by decide) ⟨rfl, rfl, by rw [if_neg (by omega)]⟩
  · refine r_al0 (q := 10) C dX5_commit_9 rfl ?_
    refine r_dup (q := 11) C dX5_commit_10 rfl ?_
    refine r_getI (q := 14) C f_X5_26 dX5_commit_11 rfl rfl (by assumption) (by omega) ?_
    refine r_iconst (q := 15) C dX5_commit_14 rfl ?_
    refine r_iadd (q := 16) C dX5_commit_15 rfl ?_
    rw [hsz]
    refine r_putI (q := 19) C fp_X5_26 dX5_commit_16 rfl rfl (by assumption) (by omega) ?_
    refine r_goto (q := 35) C dX5_commit_19 (by decide) ?_
    exact r_vret C hr dX5_commit_35 (by decide) (by decide) ⟨rfl, rfl, by rw [if_pos (by omega)]⟩
set_option maxRecDepth 20000 in
set_option maxHeartbeats 8000000 in
theorem c_X5_keep {T : oT} {σ : oM} {yC on sn sC Nn Mn : Nat} (hY : oHy T yC) (ho : σ yC 1 = (on : Int)) (ho9 : on < 9) (hsz : σ yC 2 = (sn : Int)) (hs8 : sn ≤ 8) (hS : oHd T sC) (hdis : sC + 104 ≤ yC ∨ yC + 938 ≤ sC) (hNn : σ sC 0 = (Nn : Int)) (hN6 : Nn ≤ 6) (hMn : σ sC 5 = (Mn : Int)) (hM20 : Mn ≤ 20) (hbs : ∀ jx, jx < Nn → ∃ Bn : Nat, σ (sC + 2 + 13 * jx) 2 = (Bn : Int) ∧ Bn ≤ 99) : MS yX5_keep cX5_keep 2 none 5 0 0 117 [og yC, og sC] T σ (oPv (fun σ2 => ∃ σ1, hdLike σ1 (yC + 2 + 104 * ((on + sn) % 9)) σ sC Nn Mn ∧ σ2 = if sn < 8 then o_up σ1 yC 2 ((sn : Int) + 1) else o_up σ1 yC 1 ((((on + 1) % 9 : Nat)) : Int)) T) := by
  have hYc := hY
  obtain ⟨hY0, hYr, hY1, hYs, hYT⟩ := hYc
  refine o_met (by decide +kernel) (Nat.le_of_ble_eq_true rfl) (fun p l ee s m args below meth c G b C hr hn => ?_)
  have C : oCx p s m args meth c G b RX5 cX5_keep 2 := C
  show oW p l ee ({ frames := 5, cells := 0, slots := 0, locals := 117 } : Room) s m args below meth c G b 2 0 0 (MQ below (o_Qc G b (oPv (fun σ2 => ∃ σ1, hdLike σ1 (yC + 2 + 104 * ((on + sn) % 9)) σ sC Nn Mn ∧ σ2 = if sn < 8 then o_up σ1 yC 2 ((sn : Int) + 1) else o_up σ1 yC 1 ((((on + 1) % 9 : Nat)) : Int)) T)) args s 0 0 (fun q => b ≤ q)) T σ 0 [some (og yC), some (og sC)] []
  refine r_al0 (q := 1) C dX5_keep_0 rfl ?_
  refine r_al1 (q := 2) C dX5_keep_1 rfl ?_
  refine r_callVv (q := 5) C (c_X5_prepare hY ho ho9 hsz hs8 hS hdis hNn hN6 hMn hM20 hbs) m_X5_33 (by assumption) (by omega) dX5_keep_2 rfl rfl (by decide) (by decide) (Nat.le_of_ble_eq_true rfl) (fun σ1 hσ1 => ?_)
  obtain ⟨-, -, -, -, -, -, -, hfr⟩ := id hσ1
  have hyc := hfr yC (Or.inl (by omega))
  refine r_al0 (q := 6) C dX5_keep_5 rfl ?_
  refine r_callVv (q := 9) C (c_X5_commit hY (by rw [hyc]; exact ho) ho9 (by rw [hyc]; exact hsz) hs8) m_X5_36 (by assumption) (by omega) dX5_keep_6 rfl rfl (by decide) (by decide) (Nat.le_of_ble_eq_true rfl) (fun σ2 hσ2 => ?_)
  exact r_vret C hr dX5_keep_9 (by decide) (by decide) ⟨rfl, rfl, σ1, hσ1, hσ2⟩
set_option maxRecDepth 20000 in
set_option maxHeartbeats 8000000 in
theorem c_X5_takeBack {T : oT} {σ : oM} {yC on sn sC Nn Mn : Nat} (hY : oHy T yC) (ho : σ yC 1 = (on : Int)) (ho9 : on < 9) (hsz : σ yC 2 = (sn : Int)) (hs8 : sn ≤ 8) (hS : oHd T sC) (hdis : sC + 104 ≤ yC ∨ yC + 938 ≤ sC) (hNn : σ (yC + 2 + 104 * ((on + sn) % 9)) 0 = (Nn : Int)) (hN6 : Nn ≤ 6) (hMn : σ (yC + 2 + 104 * ((on + sn) % 9)) 5 = (Mn : Int)) (hM20 : Mn ≤ 20) (hbs : ∀ jx, jx < Nn → ∃ Bn : Nat, σ ((yC + 2 + 104 * ((on + sn) % 9)) + 2 + 13 * jx) 2 = (Bn : Int) ∧ Bn ≤ 99) : MS yX5_takeBack cX5_takeBack 2 none 4 0 0 96 [og yC, og sC] T σ (oPv (fun σ2 => hdLike σ2 sC σ (yC + 2 + 104 * ((on + sn) % 9)) Nn Mn) T) := by
  have hYc := hY
  obtain ⟨hY0, hYr, hY1, hYs, hYT⟩ := hYc
  refine o_met (by decide +kernel) (Nat.le_of_ble_eq_true rfl) (fun p l ee s m args below meth c G b C hr hn => ?_)
  have C : oCx p s m args meth c G b RX5 cX5_takeBack 2 := C
  show oW p l ee ({ frames := 4, cells := 0, slots := 0, locals := 96 } : Room) s m args below meth c G b 2 0 0 (MQ below (o_Qc G b (oPv (fun σ2 => hdLike σ2 sC σ (yC + 2 + 104 * ((on + sn) % 9)) Nn Mn) T)) args s 0 0 (fun q => b ≤ q)) T σ 0 [some (og yC), some (og sC)] []
  refine r_al1 (q := 1) C dX5_takeBack_0 rfl ?_
  refine r_al0 (q := 2) C dX5_takeBack_1 rfl ?_
  refine r_callV1 (q := 5) C (c_X5_spareRow hY ho ho9 hsz hs8) m_X5_18 (by assumption) (by omega) dX5_takeBack_2 rfl rfl (by decide) (by decide) (Nat.le_of_ble_eq_true rfl) ?_
  have hYr2 := (hYs ((on + sn) % 9) (by omega)).2
  have hSs := hS.1
  have hSt := hS.2.2.2.2.2.2.2.2.2.2.2.2.2
  refine r_callVv (q := 8) C (c_X6_becomeLike hS hYr2 (by omega) hNn hN6 hMn hM20 hbs) m_X5_22 (by assumption) (by omega) dX5_takeBack_5 rfl rfl (by decide) (by decide) (Nat.le_of_ble_eq_true rfl) (fun σ2 hσ2 => ?_)
  exact r_vret C hr dX5_takeBack_8 (by decide) (by decide) ⟨rfl, rfl, hσ2⟩
set_option maxRecDepth 20000 in
set_option maxHeartbeats 8000000 in
theorem c_X5_goBack {T : oT} {σ : oM} {yC on sn sC Nn Mn : Nat} (hY : oHy T yC) (ho : σ yC 1 = (on : Int)) (ho9 : on < 9) (hsz : σ yC 2 = (sn : Int)) (hs8 : sn ≤ 8) (hs1 : 1 ≤ sn) (hS : oHd T sC) (hdis : sC + 104 ≤ yC ∨ yC + 938 ≤ sC) (hNn : σ (yC + 2 + 104 * ((on + (sn - 1)) % 9)) 0 = (Nn : Int)) (hN6 : Nn ≤ 6) (hMn : σ (yC + 2 + 104 * ((on + (sn - 1)) % 9)) 5 = (Mn : Int)) (hM20 : Mn ≤ 20) (hbs : ∀ jx, jx < Nn → ∃ Bn : Nat, σ ((yC + 2 + 104 * ((on + (sn - 1)) % 9)) + 2 + 13 * jx) 2 = (Bn : Int) ∧ Bn ≤ 99) : MS yX5_goBack cX5_goBack 2 none 5 0 0 117 [og yC, og sC] T σ (oPv (fun σ2 => hdLike σ2 sC (o_up σ yC 2 (((sn - 1 : Nat)) : Int)) (yC + 2 + 104 * ((on + (sn - 1)) % 9)) Nn Mn) T) := by
  have hYc := hY
  obtain ⟨hY0, hYr, hY1, hYs, hYT⟩ := hYc
  refine o_met (by decide +kernel) (Nat.le_of_ble_eq_true rfl) (fun p l ee s m args below meth c G b C hr hn => ?_)
  have C : oCx p s m args meth c G b RX5 cX5_goBack 2 := C
  show oW p l ee ({ frames := 5, cells := 0, slots := 0, locals := 117 } : Room) s m args below meth c G b 2 0 0 (MQ below (o_Qc G b (oPv (fun σ2 => hdLike σ2 sC (o_up σ yC 2 (((sn - 1 : Nat)) : Int)) (yC + 2 + 104 * ((on + (sn - 1)) % 9)) Nn Mn) T)) args s 0 0 (fun q => b ≤ q)) T σ 0 [some (og yC), some (og sC)] []
  refine r_al0 (q := 1) C dX5_goBack_0 rfl ?_
  refine r_dup (q := 2) C dX5_goBack_1 rfl ?_
  refine r_getI (q := 5) C f_X5_26 dX5_goBack_2 rfl rfl (by assumption) (by omega) ?_
  refine r_iconst (q := 6) C dX5_goBack_5 rfl ?_
  refine r_isub (q := 7) C dX5_goBack_6 rfl ?_
  rw [hsz, show (sn : Int) - 1 = (((sn - 1 : Nat)) : Int) by omega]
  refine r_putI (q := 10) C fp_X5_26 dX5_goBack_7 rfl rfl (by assumption) (by omega) ?_
  refine r_al0 (q := 11) C dX5_goBack_10 rfl ?_
  refine r_al1 (q := 12) C dX5_goBack_11 rfl ?_
  refine r_callVv (q := 15) C (c_X5_takeBack (on := on) (sn := sn - 1) hY (by rw [o_up_nj (Or.inr (by decide))]; exact ho) ho9 (by rw [o_up_at]) (by omega) hS hdis (by rw [o_up_ne (by omega)]; exact hNn) hN6 (by rw [o_up_ne (by omega)]; exact hMn) hM20 (fun jx hj => by rw [o_up_ne (by omega)]; exact hbs jx hj)) m_X5_39 (by assumption) (by omega) dX5_goBack_12 rfl rfl (by decide) (by decide) (Nat.le_of_ble_eq_true rfl) (fun σ2 hσ2 => ?_)
  exact r_vret C hr dX5_goBack_15 (by decide) (by decide) ⟨rfl, rfl, hσ2⟩
