set_option maxRecDepth 20000 in
set_option maxHeartbeats 8000000 in
theorem c_X8_settle {T : oT} {σ : oM} {xC on sn : Nat} {z : Int} (hX : oX T xC) (hz : o_r z) (ho : σ (xC + 209) 1 = (on : Int)) (ho9 : on < 9) (hsz : σ (xC + 209) 2 = (sn : Int)) (hs8 : sn ≤ 8) : MS yX8_settle cX8_settle 2 (some FieldType.int) 1 0 0 20 [og xC, oi z] T σ (oPs (fun zx σ2 => zx = z ∧ σ2 = if z < 0 ∧ z ≠ -7 then σ else if sn < 8 then o_up σ (xC + 209) 2 ((sn : Int) + 1) else o_up σ (xC + 209) 1 ((((on + 1) % 9 : Nat)) : Int)) T) := by
  have hXc := hX
  obtain ⟨hX0, hXr0, hXr1, hXr2, hXr3, hXr4, hXr5, hXr6, hXn, hXs, hXy, hXq, hXk, hXb, hXbs, hXi, hXT⟩ := hXc
  have hY0 := hXy.1
  refine o_met (by decide +kernel) (Nat.le_of_ble_eq_true rfl) (fun p l ee s m args below meth c G b C hr hn => ?_)
  have C : oCx p s m args meth c G b RX8 cX8_settle 2 := C
  show oW p l ee ({ frames := 1, cells := 0, slots := 0, locals := 20 } : Room) s m args below meth c G b 2 0 0 (MQ below (o_Qc G b (oPs (fun zx σ2 => zx = z ∧ σ2 = if z < 0 ∧ z ≠ -7 then σ else if sn < 8 then o_up σ (xC + 209) 2 ((sn : Int) + 1) else o_up σ (xC + 209) 1 ((((on + 1) % 9 : Nat)) : Int)) T)) args s 0 0 (fun q => b ≤ q)) T σ 0 [some (og xC), some (oi z)] []
  refine r_il1 (q := 1) C dX8_settle_0 rfl ?_
  refine r_callSb (q := 4) C (c_X8_isError (by omega)) m_X8_396 dX8_settle_1 rfl rfl (by decide) (by decide) (Nat.le_of_ble_eq_true rfl) (fun br1 => ?_) (fun br1 => ?_)
  · refine r_ifne_t (q := 14) C (by decide) (by omega) dX8_settle_4 (by decide) ?_
    refine r_il1 (q := 15) C dX8_settle_14 rfl ?_
    exact r_iret C hr dX8_settle_15 (by decide) (by decide) ⟨_, rfl, rfl, rfl, by rw [if_pos br1]⟩
  · refine r_ifne_f (q := 14) (q2 := 7) C (by decide) (by omega) dX8_settle_4 (by decide) rfl ?_
    refine r_al0 (q := 8) C dX8_settle_7 rfl ?_
    refine r_getR (q := 11) C f_X8_22 dX8_settle_8 rfl rfl (by assumption) (by assumption) (by omega) ?_
    refine r_callVv (q := 14) C (c_X5_commit hXy ho ho9 hsz hs8) m_X8_401 (by assumption) (by omega) dX8_settle_11 rfl rfl (by decide) (by decide) (Nat.le_of_ble_eq_true rfl) (fun σ2 hσ2 => ?_)
    refine r_il1 (q := 15) C dX8_settle_14 rfl ?_
    exact r_iret C hr dX8_settle_15 (by decide) (by decide) ⟨_, rfl, rfl, rfl, by rw [if_neg br1]; exact hσ2⟩
