set_option maxRecDepth 20000 in
set_option maxHeartbeats 8000000 in
theorem c_X8_within {T : oT} {σ : oM} {z lo hi : Int} (hz : o_r z) (h1 : o_r lo) (h2 : o_r hi) : MS yX8_within cX8_within 3 (some FieldType.boolean) 0 0 0 0 [oi z, oi lo, oi hi] T σ (oPb (lo ≤ z ∧ z ≤ hi) T σ) := by
  refine o_met (by decide +kernel) (Nat.le_of_ble_eq_true rfl) (fun p l ee s m args below meth c G b C hr hn => ?_)
  have C : oCx p s m args meth c G b RX8 cX8_within 3 := C
  show oW p l ee ({ frames := 0, cells := 0, slots := 0, locals := 0 } : Room) s m args below meth c G b 3 0 0 (MQ below (o_Qc G b (oPb (lo ≤ z ∧ z ≤ hi) T σ)) args s 0 0 (fun q => b ≤ q)) T σ 0 [some (oi z), some (oi lo), some (oi hi)] []
  refine r_il0 (q := 1) C dX8_within_0 rfl ?_
  refine r_il1 (q := 2) C dX8_within_1 rfl ?_
  refine r_iclt (q := 14) (q2 := 5) C (by omega) (by omega) dX8_within_2 (by decide) rfl (fun e2 => ?_) (fun e2 => ?_)
  · refine r_iconst (q := 15) C dX8_within_14 rfl ?_
    exact r_zret C hr dX8_within_15 (by decide) (by decide) (by decide) ⟨Or.inr ⟨by omega, rfl⟩, rfl, rfl⟩
  · refine r_il0 (q := 6) C dX8_within_5 rfl ?_
    refine r_il2 (q := 7) C dX8_within_6 rfl ?_
    refine r_icgt (q := 14) (q2 := 10) C (by omega) (by omega) dX8_within_7 (by decide) rfl (fun e7 => ?_) (fun e7 => ?_)
    · refine r_iconst (q := 15) C dX8_within_14 rfl ?_
      exact r_zret C hr dX8_within_15 (by decide) (by decide) (by decide) ⟨Or.inr ⟨by omega, rfl⟩, rfl, rfl⟩
    · refine r_iconst (q := 11) C dX8_within_10 rfl ?_
      refine r_goto (q := 15) C dX8_within_11 (by decide) ?_
      exact r_zret C hr dX8_within_15 (by decide) (by decide) (by decide) ⟨Or.inl ⟨⟨by omega, by omega⟩, rfl⟩, rfl, rfl⟩
set_option maxRecDepth 20000 in
set_option maxHeartbeats 8000000 in
theorem c_X9_in {T : oT} {σ : oM} {z lo hi : Int} (hz : o_r z) (h1 : o_r lo) (h2 : o_r hi) : MS yX9_in cX9_in 3 (some FieldType.boolean) 0 0 0 0 [oi z, oi lo, oi hi] T σ (oPb (lo ≤ z ∧ z ≤ hi) T σ) := by
  refine o_met (by decide +kernel) (Nat.le_of_ble_eq_true rfl) (fun p l ee s m args below meth c G b C hr hn => ?_)
  have C : oCx p s m args meth c G b RX9 cX9_in 3 := C
  show oW p l ee ({ frames := 0, cells := 0, slots := 0, locals := 0 } : Room) s m args below meth c G b 3 0 0 (MQ below (o_Qc G b (oPb (lo ≤ z ∧ z ≤ hi) T σ)) args s 0 0 (fun q => b ≤ q)) T σ 0 [some (oi z), some (oi lo), some (oi hi)] []
  refine r_il0 (q := 1) C dX9_in_0 rfl ?_
  refine r_il1 (q := 2) C dX9_in_1 rfl ?_
  refine r_iclt (q := 14) (q2 := 5) C (by omega) (by omega) dX9_in_2 (by decide) rfl (fun e2 => ?_) (fun e2 => ?_)
  · refine r_iconst (q := 15) C dX9_in_14 rfl ?_
    exact r_zret C hr dX9_in_15 (by decide) (by decide) (by decide) ⟨Or.inr ⟨by omega, rfl⟩, rfl, rfl⟩
  · refine r_il0 (q := 6) C dX9_in_5 rfl ?_
    refine r_il2 (q := 7) C dX9_in_6 rfl ?_
    refine r_icgt (q := 14) (q2 := 10) C (by omega) (by omega) dX9_in_7 (by decide) rfl (fun e7 => ?_) (fun e7 => ?_)
    · refine r_iconst (q := 15) C dX9_in_14 rfl ?_
      exact r_zret C hr dX9_in_15 (by decide) (by decide) (by decide) ⟨Or.inr ⟨by omega, rfl⟩, rfl, rfl⟩
    · refine r_iconst (q := 11) C dX9_in_10 rfl ?_
      refine r_goto (q := 15) C dX9_in_11 (by decide) ?_
      exact r_zret C hr dX9_in_15 (by decide) (by decide) (by decide) ⟨Or.inl ⟨⟨by omega, by omega⟩, rfl⟩, rfl, rfl⟩
