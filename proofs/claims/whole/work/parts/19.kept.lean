theorem oHis_fr {σ σ2 : oM} {yC : Nat} {Lh : List (Nat → Int)} (h : oHis σ yC Lh) (hb : ∀ B ∈ Lh, nEd B ≤ 6 ∧ nLn B ≤ 20) (hf : ∀ x, yC ≤ x → x < yC + 938 → σ2 x = σ x) : oHis σ2 yC Lh := by
  obtain ⟨on, sn, q1, q2, q3, q4, q5, q6⟩ := h
  have hy := hf yC (by omega) (by omega)
  exact ⟨on, sn, by rw [hy]; exact q1, q2, by rw [hy]; exact q3, q4, q5, fun kx B hB => oHR_fr (q6 kx B hB) (hb B (List.mem_of_getElem? hB)) (fun x h1 h2 => hf x (by omega) (by omega))⟩
theorem hpush_b {Lh : List (Nat → Int)} {A : Nat → Int} (hb : ∀ B ∈ Lh, nEd B ≤ 6 ∧ nLn B ≤ 20) (hA : nEd A ≤ 6 ∧ nLn A ≤ 20) : ∀ B ∈ hpush Lh A, nEd B ≤ 6 ∧ nLn B ≤ 20 := by
  intro B hB
  unfold hpush at hB
  rcases List.mem_append.mp hB with h | h
  · split at h
    · exact hb B (List.mem_of_mem_drop h)
    · exact hb B h
  · rw [List.mem_singleton] at h
    rw [h]
    exact hA
/-- the holdings say A, the history the list, the latest reason is rf, all else stays -/
def oCk (σ σ2 : oM) (xC : Nat) (A : Nat → Int) (Lh : List (Nat → Int)) (rf : Int) : Prop := oHR σ2 (xC + 1) A ∧ oHis σ2 (xC + 209) Lh ∧ (∀ x, x ≠ xC → (x < xC + 1 ∨ (xC + 105 ≤ x ∧ x < xC + 209) ∨ xC + 1147 ≤ x) → σ2 x = σ x) ∧ (∀ kx, kx ≠ 10 → σ2 xC kx = σ xC kx) ∧ σ2 xC 10 = rf
theorem oCk_rf {σ : oM} {xC : Nat} {A : Nat → Int} {Lh : List (Nat → Int)} (h : oHR σ (xC + 1) A) (h2 : oHis σ (xC + 209) Lh) : oCk σ σ xC A Lh (σ xC 10) := ⟨h, h2, fun _ _ _ => rfl, fun _ _ => rfl, rfl⟩
def fSeat (A : Nat → Int) (Lh : List (Nat → Int)) (z v : Int) : Int × (Nat → Int) × List (Nat → Int) :=
  if 0 ≤ z ∧ z ≤ 5 then (if 0 ≤ v ∧ v ≤ 20 then (A (11 + z.toNat), updF A (11 + z.toNat) v, hpush Lh A) else (-2, A, Lh)) else (-1, A, Lh)
set_option maxRecDepth 20000 in
set_option maxHeartbeats 8000000 in
theorem c_X8_seat {T : oT} {σ : oM} {xC : Nat} {A : Nat → Int} {Bd : Int} (hX : oX T xC) (hR : oHR σ (xC + 1) A) (hI : oI Bd A) {Lh : List (Nat → Int)} (hH : oHis σ (xC + 209) Lh) (hb : ∀ B ∈ Lh, nEd B ≤ 6 ∧ nLn B ≤ 20) {z v : Int} (hz : o_r z) (hv : o_r v) : MS yX8_seat cX8_seat 4 (some FieldType.int) 6 0 0 138 [og xC, oi z, oi v] T σ (oPs (fun zx σ2 => zx = (fSeat A Lh z v).1 ∧ oCk σ σ2 xC (fSeat A Lh z v).2.1 (fSeat A Lh z v).2.2 (σ xC 10)) T) := by
  have hXc := hX
  obtain ⟨hX0, hXr0, hXr1, hXr2, hXr3, hXr4, hXr5, hXr6, hXn, hXs, hXy, hXq, hXk, hXb, hXbs, hXi, hXT⟩ := hXc
  have hHc := hXn
  obtain ⟨hH0, hH1, hH2, hH3, hH4, hH6, hG1, hG80, hG81, hG82, hG83, hEs, hLs, hHT⟩ := hHc
  have hRc := hR
  obtain ⟨hR0, hR5, hR7, hRw8, hRp, hRl, hRe⟩ := hRc
  have hIn := oI_n hI
  have hIc := hI
  obtain ⟨hI1, hI2, hI3, hI4, hI5, hI6, hI7, hI8, -⟩ := hIc
  have hY0 := hXy.1
  have hHc2 := hH
  obtain ⟨on, sn, ho, ho9, hsz, hlen, hs8, hrow⟩ := hHc2
  refine o_met (by decide +kernel) (Nat.le_of_ble_eq_true rfl) (fun p l ee s m args below meth c G b C hr hn => ?_)
  have C : oCx p s m args meth c G b RX8 cX8_seat 4 := C
  show oW p l ee ({ frames := 6, cells := 0, slots := 0, locals := 138 } : Room) s m args below meth c G b 4 0 0 (MQ below (o_Qc G b (oPs (fun zx σ2 => zx = (fSeat A Lh z v).1 ∧ oCk σ σ2 xC (fSeat A Lh z v).2.1 (fSeat A Lh z v).2.2 (σ xC 10)) T)) args s 0 0 (fun q => b ≤ q)) T σ 0 [some (og xC), some (oi z), some (oi v), none] []
  refine r_il1 (q := 1) C dX8_seat_0 rfl ?_
  refine r_callSb (q := 4) C (c_X8_isInstrument (by omega)) m_X8_238 dX8_seat_1 rfl rfl (by decide) (by decide) (Nat.le_of_ble_eq_true rfl) (fun br1 => ?_) (fun br1 => ?_)
  · refine r_ifne_t (q := 9) C (by decide) (by omega) dX8_seat_4 (by decide) ?_
    refine r_il2 (q := 10) C dX8_seat_9 rfl ?_
    refine r_iconst (q := 11) C dX8_seat_10 rfl ?_
    refine r_bipush (q := 13) C dX8_seat_11 (by decide) rfl ?_
    refine r_callSb (q := 16) C (c_X8_within hv (by omega) (by omega)) m_X8_68 dX8_seat_13 rfl rfl (by decide) (by decide) (Nat.le_of_ble_eq_true rfl) (fun br13 => ?_) (fun br13 => ?_)
    · refine r_ifne_t (q := 22) C (by decide) (by omega) dX8_seat_16 (by decide) ?_
      have hs := fSeat.eq_1 A Lh z v
      rw [if_pos br1, if_pos br13] at hs
      obtain ⟨iN, rfl⟩ : ∃ iN : Nat, z = (iN : Int) := ⟨z.toNat, by omega⟩
      rw [Int.toNat_natCast] at hs
      refine r_al0 (q := 23) C dX8_seat_22 rfl ?_
      refine r_getR (q := 26) C f_X8_22 dX8_seat_23 rfl rfl (by assumption) (by assumption) (by omega) ?_
      refine r_al0 (q := 27) C dX8_seat_26 rfl ?_
      refine r_getR (q := 30) C f_X8_10 dX8_seat_27 rfl rfl (by assumption) (by assumption) (by omega) ?_
      refine r_callVv (q := 33) C (c_X5_keep hXy ho ho9 hsz hs8 hXn (by omega) hR0 hIn.2.2.1 hR5 hIn.2.2.2 (fun j hj => ⟨nBr A j, (oHR_e hR hj).2.2, (oI_b hI hj).2.2.2⟩)) m_X8_79 (by assumption) (by omega) dX8_seat_30 rfl rfl (by decide) (by decide) (Nat.le_of_ble_eq_true rfl) (fun σ2 hσ2 => ?_)
      obtain ⟨σ1, hk1, hk2⟩ := hσ2
      obtain ⟨hK, hH2, hfr2⟩ := keep_of (by omega) hR ⟨hIn.2.2.1, hIn.2.2.2⟩ ho ho9 hsz hlen hs8 hrow hb hk1 hk2
      have hpb := hpush_b hb (A := A) ⟨hIn.2.2.1, hIn.2.2.2⟩
      refine r_al0 (q := 34) C dX8_seat_33 rfl ?_
      refine r_getR (q := 37) C f_X8_10 dX8_seat_34 rfl rfl (by assumption) (by assumption) (by omega) ?_
      refine r_getR (q := 40) C f_X8_241 dX8_seat_37 rfl rfl (by assumption) (by assumption) (by omega) ?_
      refine r_il1 (q := 41) C dX8_seat_40 rfl ?_
      refine r_iald (q := 42) C (iN) dX8_seat_41 rfl (by assumption) (by omega) (by omega) (by omega) (by decide) ?_
      refine r_is3 (q := 43) C dX8_seat_42 rfl (by decide) ?_
      refine r_al0 (q := 44) C dX8_seat_43 rfl ?_
      refine r_getR (q := 47) C f_X8_10 dX8_seat_44 rfl rfl (by assumption) (by assumption) (by omega) ?_
      refine r_getR (q := 50) C f_X8_241 dX8_seat_47 rfl rfl (by assumption) (by assumption) (by omega) ?_
      refine r_il1 (q := 51) C dX8_seat_50 rfl ?_
      refine r_il2 (q := 52) C dX8_seat_51 rfl ?_
      refine r_iast (q := 53) C (iN) dX8_seat_52 rfl (by assumption) (by omega) (by omega) (by omega) (by decide) ?_
      refine r_il3 (q := 54) C dX8_seat_53 rfl ?_
      exact r_iret C hr dX8_seat_54 (by decide) (by decide) ⟨_, rfl, rfl, by rw [hs, hK.2.2.2.2.1 iN (by omega)], by rw [hs]; exact ⟨oHR_upP hK hIn.2.2.1 hIn.2.2.2 (fun ex he => (oI_b hI he).2.2.2) (by omega), oHis_fr hH2 hpb (fun x h1 h2 => o_up_ne (by omega)), fun x h1 h2 => by rw [o_up_ne (by omega)]; exact hfr2 x (by omega), fun k _ => by rw [o_up_ne (by omega), hfr2 xC (by omega)], by rw [o_up_ne (by omega), hfr2 xC (by omega)]⟩⟩
    · refine r_ifne_f (q := 22) (q2 := 19) C (by decide) (by omega) dX8_seat_16 (by decide) rfl ?_
      refine r_bipush (q := 21) C dX8_seat_19 (by decide) rfl ?_
      exact r_iret C hr dX8_seat_21 (by decide) (by decide) ⟨_, rfl, rfl, by rw [fSeat, if_pos br1, if_neg br13], by rw [fSeat, if_pos br1, if_neg br13]; exact oCk_rf hR hH⟩
  · refine r_ifne_f (q := 9) (q2 := 7) C (by decide) (by omega) dX8_seat_4 (by decide) rfl ?_
    refine r_iconst (q := 8) C dX8_seat_7 rfl ?_
    exact r_iret C hr dX8_seat_8 (by decide) (by decide) ⟨_, rfl, rfl, by rw [fSeat, if_neg br1], by rw [fSeat, if_neg br1]; exact oCk_rf hR hH⟩
