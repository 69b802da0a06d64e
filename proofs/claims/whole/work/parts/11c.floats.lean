theorem oi32 (n : Nat) : (Int32.ofInt ((n : Nat) : Int)).toBitVec = BitVec.ofNat 32 n := by
  rw [Int32.toBitVec_ofInt, BitVec.ofInt_natCast]
theorem o_and {n : Nat} (h : n < 2147483648) : Int32.ofInt ((n : Nat) : Int) &&& Int32.ofInt 8388607 = Int32.ofInt ((n % 8388608 : Nat) : Int) := by
  apply Int32.toBitVec_inj.mp
  rw [Int32.toBitVec_and, oi32, oi32, show (8388607 : Int) = ((8388607 : Nat) : Int) from rfl, oi32]
  apply BitVec.eq_of_toNat_eq
  rw [BitVec.toNat_and, BitVec.toNat_ofNat, BitVec.toNat_ofNat, BitVec.toNat_ofNat, Nat.mod_eq_of_lt (by omega), Nat.mod_eq_of_lt (by decide), Nat.mod_eq_of_lt (by omega), show 8388607 = 2 ^ 23 - 1 from rfl, Nat.and_two_pow_sub_one_eq_mod]
theorem o_or {E fx : Nat} (h : E ≤ 254) (hf : fx < 8388608) : Int32.ofInt ((E * 8388608 : Nat) : Int) ||| Int32.ofInt ((fx : Nat) : Int) = Int32.ofInt ((E * 8388608 + fx : Nat) : Int) := by
  apply Int32.toBitVec_inj.mp
  rw [Int32.toBitVec_or, oi32, oi32, oi32]
  apply BitVec.eq_of_toNat_eq
  rw [BitVec.toNat_or, BitVec.toNat_ofNat, BitVec.toNat_ofNat, BitVec.toNat_ofNat, Nat.mod_eq_of_lt (by omega), Nat.mod_eq_of_lt (by omega), Nat.mod_eq_of_lt (by omega)]
  have h1 := Nat.shiftLeft_add_eq_or_of_lt (a := E) (i := 23) (b := fx) hf
  rw [Nat.shiftLeft_eq] at h1
  exact h1.symm
theorem o_shl : ∀ n : Fin 255, Int32.ofInt ((n.val : Nat) : Int) <<< (Int32.ofInt 23 &&& 31) = Int32.ofInt ((n.val * 8388608 : Nat) : Int) := by decide +kernel
/-- what fcmp pushes -/
def fcz (op : CmpOp) (ux vx : UInt32) : Int := (Op.cmpValue (FP.fcmp ux vx) op).toInt
theorem fcz_z (op : CmpOp) (ux vx : UInt32) : Op.cmpValue (FP.fcmp ux vx) op = Int32.ofInt (fcz op ux vx) := (Int32.ofInt_toInt _).symm
theorem fcz_in (op : CmpOp) (ux vx : UInt32) : -1 ≤ fcz op ux vx ∧ fcz op ux vx ≤ 1 := by
  unfold fcz
  cases FP.fcmp ux vx with
  | none => cases op <;> decide
  | some o => cases o <;> cases op <;> decide
theorem fcz_pn {op : CmpOp} {ux vx : UInt32} {E1 E2 : Nat} (hu : oPN ux E1) (hv : FP.Core.decode o32 vx.toNat = .fin false 8388608 ((E2 : Int) - 150)) : (E1 < E2 → fcz op ux vx = -1) ∧ (E2 ≤ E1 → 0 ≤ fcz op ux vx) := by
  have h := fcmp_pn hu hv
  unfold fcz
  constructor
  · intro hlt
    rw [h.1 hlt]
    cases op <;> rfl
  · intro hle
    rcases h.2 hle with h2 | h2 <;> rw [h2] <;> cases op <;> decide
theorem barD_n {bt tt : Int} (hb : 1 ≤ bt ∧ bt ≤ 9) (ht : 200 ≤ tt ∧ tt ≤ 2500) : vf_n32 (FP.fmul (FP.i2f (Int32.ofInt bt)) 1114636288) ∧ vf_n32 (FP.fdiv (FP.i2f (Int32.ofInt tt)) 1092616192) ∧ ∃ E, oPN (barD bt tt) E ∧ 124 ≤ E ∧ E ≤ 133 := by
  obtain ⟨nb, rfl⟩ : ∃ nb : Nat, bt = (nb : Int) := ⟨bt.toNat, by omega⟩
  obtain ⟨nt, rfl⟩ : ∃ nt : Nat, tt = (nt : Int) := ⟨tt.toNat, by omega⟩
  have h1 := beat_E ⟨nb, by omega⟩ (show 1 ≤ nb by omega)
  have h2 := tempo_E ⟨nt, by omega⟩ (show 200 ≤ nt by omega)
  simp only at h1 h2
  have p1 : oPN (FP.fmul (FP.i2f (Int32.ofInt ((nb : Nat) : Int))) 1114636288) _ := ⟨by omega, by omega, rfl⟩
  have p2 : oPN (FP.fdiv (FP.i2f (Int32.ofInt ((nt : Nat) : Int))) 1092616192) _ := ⟨by omega, by omega, rfl⟩
  obtain ⟨E, p3, p4, p5⟩ := fdiv_pn p1 p2 (by omega) (by omega)
  exact ⟨oPN_n32 p1, oPN_n32 p2, E, p3, by omega, by omega⟩
theorem durF_pn {dx : Nat → UInt32} {sx : Nat} : ∀ n : Nat, n ≤ 98 → (∀ j, sx ≤ j → j < sx + (n + 1) → ∃ E, oPN (dx j) E ∧ 124 ≤ E ∧ E ≤ 133) → ∃ E, oPN (durF dx sx (n + 1)) E ∧ 124 ≤ E ∧ E ≤ 134 + n
  | 0, _, h => by
    obtain ⟨E, a1, a2, a3⟩ := h sx (Nat.le_refl _) (by omega)
    obtain ⟨E2, b1, b2, b3⟩ := fadd_0 a1 (by omega)
    exact ⟨E2, b1, by omega, by omega⟩
  | n + 1, hn, h => by
    obtain ⟨E, a1, a2, a3⟩ := durF_pn (dx := dx) (sx := sx) n (by omega) (fun j h1 h2 => h j h1 (by omega))
    obtain ⟨E2, b1, b2, b3⟩ := h (sx + (n + 1)) (by omega) (by omega)
    obtain ⟨E3, c1, c2, c3⟩ := fadd_pn a1 b1 (by omega) (by omega)
    exact ⟨E3, c1, by omega, by omega⟩
/-- the durations of an edition's bars -/
def edD (bts tms : Nat → Int) (j : Nat) : UInt32 := barD (bts j) (cTempo tms j)
theorem edD_pn {bts tms : Nat → Int} {Bn j : Nat} (hbt : ∀ i, 1 ≤ i → i ≤ Bn → 1 ≤ bts i ∧ bts i ≤ 9) (htm : ∀ i, 1 ≤ i → i ≤ Bn → tms i = 0 ∨ (200 ≤ tms i ∧ tms i ≤ 2500)) (h1 : 1 ≤ j) (h2 : j ≤ Bn) : ∃ E, oPN (edD bts tms j) E ∧ 124 ≤ E ∧ E ≤ 133 :=
  (barD_n (hbt j h1 h2) (cTempo_in (fun i a b => htm i a (by omega)))).2.2
theorem edD_add {bts tms : Nat → Int} {Bn sx n : Nat} (hB : Bn ≤ 99) (hbt : ∀ i, 1 ≤ i → i ≤ Bn → 1 ≤ bts i ∧ bts i ≤ 9) (htm : ∀ i, 1 ≤ i → i ≤ Bn → tms i = 0 ∨ (200 ≤ tms i ∧ tms i ≤ 2500)) (h1 : 1 ≤ sx) (h2 : sx + n ≤ Bn) : vf_n32 (FP.fadd (durF (edD bts tms) sx n) (edD bts tms (sx + n))) := by
  obtain ⟨E, a1, -, -⟩ := durF_pn (dx := edD bts tms) (sx := sx) n (by omega) (fun j j1 j2 => edD_pn hbt htm (by omega) (by omega))
  exact oPN_n32 a1
/-- the first bar with which the sum passes a number; 0 if none -/
def fbF (dx : Nat → UInt32) (ux : UInt32) : Nat → Nat → Nat
  | 0, _ => 0
  | n + 1, j => if 0 < fcz .l (durF dx 1 j) ux then j else fbF dx ux n (j + 1)
set_option maxRecDepth 20000 in
set_option maxHeartbeats 8000000 in
theorem c_X4_durationOfBar {T : oT} {σ : oM} {bt tt : Int} (hb : 1 ≤ bt ∧ bt ≤ 9) (ht : 200 ≤ tt ∧ tt ≤ 2500) : MS yX4_durationOfBar cX4_durationOfBar 2 (some FieldType.float) 0 0 0 0 [oi bt, oi tt] T σ (oP1 (ofl (barD bt tt)) T σ) := by
  refine o_met (by decide +kernel) (Nat.le_of_ble_eq_true rfl) (fun p l ee s m args below meth c G b C hr hn => ?_)
  have C : oCx p s m args meth c G b RX4 cX4_durationOfBar 2 := C
  show oW p l ee ({ frames := 0, cells := 0, slots := 0, locals := 0 } : Room) s m args below meth c G b 2 0 0 (MQ below (o_Qc G b (oP1 (ofl (barD bt tt)) T σ)) args s 0 0 (fun q => b ≤ q)) T σ 0 [some (oi bt), some (oi tt)] []
  refine r_il0 (q := 1) C dX4_durationOfBar_0 rfl ?_
  refine r_i2f (q := 2) C dX4_durationOfBar_1 rfl ?_
  refine r_ldcf (q := 4) C k_X4_84 dX4_durationOfBar_2 rfl ?_
  refine r_fmul (q := 5) C (barD_n hb ht).1 dX4_durationOfBar_4 rfl ?_
  refine r_il1 (q := 6) C dX4_durationOfBar_5 rfl ?_
  refine r_i2f (q := 7) C dX4_durationOfBar_6 rfl ?_
  refine r_ldcf (q := 9) C k_X4_85 dX4_durationOfBar_7 rfl ?_
  refine r_fdiv (q := 10) C (barD_n hb ht).2.1 dX4_durationOfBar_9 rfl ?_
  refine r_fdiv (q := 11) C (oPN_n32 (barD_n hb ht).2.2.choose_spec.1) dX4_durationOfBar_10 rfl ?_
  exact r_fret C hr dX4_durationOfBar_11 (by decide) (by decide) ⟨rfl, rfl, rfl⟩
set_option maxRecDepth 20000 in
set_option maxHeartbeats 8000000 in
theorem c_X4_duration {T : oT} {σ : oM} {eC Bn fx tx : Nat} (hE : oEd T eC) (hBn : σ eC 2 = (Bn : Int)) (hB2 : Bn ≤ 99) (hbt : ∀ i, 1 ≤ i → i ≤ Bn → 1 ≤ σ (eC + 3) i ∧ σ (eC + 3) i ≤ 9) (htm : ∀ i, 1 ≤ i → i ≤ Bn → σ (eC + 4) i = 0 ∨ (200 ≤ σ (eC + 4) i ∧ σ (eC + 4) i ≤ 2500)) (hf : 1 ≤ fx) (hft : fx ≤ tx) (ht : tx ≤ Bn) : MS yX4_duration cX4_duration 6 (some FieldType.float) 1 0 0 22 [og eC, oi ((fx : Nat) : Int), oi ((tx : Nat) : Int)] T σ (oP1 (ofl (durF (edD (σ (eC + 3)) (σ (eC + 4))) fx (tx + 1 - fx))) T σ) := by
  have hEc := hE
  obtain ⟨hE0, hE3, hE4, hE5, hE6, hE7, hE8, hE9, hE10, hA1, hA2, hA3, hA4, hA5, hRw, hA10, hA11, hA12, hTe⟩ := hEc
  refine o_met (by decide +kernel) (Nat.le_of_ble_eq_true rfl) (fun p l ee s m args below meth c G b C hr hn => ?_)
  have C : oCx p s m args meth c G b RX4 cX4_duration 6 := C
  show oW p l ee ({ frames := 1, cells := 0, slots := 0, locals := 22 } : Room) s m args below meth c G b 6 0 0 (MQ below (o_Qc G b (oP1 (ofl (durF (edD (σ (eC + 3)) (σ (eC + 4))) fx (tx + 1 - fx))) T σ)) args s 0 0 (fun q => b ≤ q)) T σ 0 [some (og eC), some (oi ((fx : Nat) : Int)), some (oi ((tx : Nat) : Int)), none, none, none] []
  have lp : ∀ (n : Nat) (kx : Nat) (vx : Int), tx + 1 - (fx + kx) < n → (fx + kx ≤ tx + 1 ∧ True) → (fx + kx ≤ tx → (if σ (eC + 4) (fx + kx) = 0 then vx else σ (eC + 4) (fx + kx)) = cTempo (σ (eC + 4)) (fx + kx)) → oW p l ee ({ frames := 1, cells := 0, slots := 0, locals := 22 } : Room) s m args below meth c G b 6 0 0 (MQ below (o_Qc G b (oP1 (ofl (durF (edD (σ (eC + 3)) (σ (eC + 4))) fx (tx + 1 - fx))) T σ)) args s 0 0 (fun q => b ≤ q)) T σ 12 [some (og eC), some (oi ((fx : Nat) : Int)), some (oi ((tx : Nat) : Int)), some (ofl (durF (edD (σ (eC + 3)) (σ (eC + 4))) fx kx)), some (oi vx), some (oi ((fx + kx : Nat) : Int))] [] := by
    intro n
    induction n with
    | zero =>
      intro kx vx hms
      exact absurd hms (Nat.not_lt_zero _)
    | succ n ih =>
      intro kx vx hms h1 h2
      refine r_il5 (q := 14) C dX4_duration_12 rfl ?_
      refine r_il2 (q := 15) C dX4_duration_14 rfl ?_
      refine r_icgt (q := 63) (q2 := 18) C (by omega) (by omega) dX4_duration_15 (by decide) rfl (fun br15 => ?_) (fun br15 => ?_)
      · refine r_fl3 (q := 64) C dX4_duration_63 rfl ?_
        exact r_fret C hr dX4_duration_64 (by decide) (by decide) ⟨by rw [show tx + 1 - fx = kx by omega], rfl, rfl⟩
      · refine r_al0 (q := 19) C dX4_duration_18 rfl ?_
        refine r_getR (q := 22) C f_X4_25 dX4_duration_19 rfl rfl (by assumption) (by assumption) (by omega) ?_
        refine r_il5 (q := 24) C dX4_duration_22 rfl ?_
        refine r_iald (q := 25) C (fx + kx) dX4_duration_24 rfl (by assumption) (by omega) (by omega) (by omega) (by decide) ?_
        refine r_ifne (q := 33) (q2 := 28) C (by rcases htm (fx + kx) (by omega) (by omega) with h | h <;> omega) dX4_duration_25 (by decide) rfl (fun br25 => ?_) (fun br25 => ?_)
        · refine r_al0 (q := 34) C dX4_duration_33 rfl ?_
          refine r_getR (q := 37) C f_X4_25 dX4_duration_34 rfl rfl (by assumption) (by assumption) (by omega) ?_
          refine r_il5 (q := 39) C dX4_duration_37 rfl ?_
          refine r_iald (q := 40) C (fx + kx) dX4_duration_39 rfl (by assumption) (by omega) (by omega) (by omega) (by decide) ?_
          have h2k := h2 (by omega)
          rw [if_neg br25] at h2k
          have hcx := cTempo_in (t := σ (eC + 4)) (n := fx + kx) (fun i i1 i2 => htm i i1 (by omega))
          rw [h2k]
          refine r_is4 (q := 42) C dX4_duration_40 rfl (by decide) ?_
          refine r_fl3 (q := 43) C dX4_duration_42 rfl ?_
          refine r_al0 (q := 44) C dX4_duration_43 rfl ?_
          refine r_getR (q := 47) C f_X4_22 dX4_duration_44 rfl rfl (by assumption) (by assumption) (by omega) ?_
          refine r_il5 (q := 49) C dX4_duration_47 rfl ?_
          refine r_iald (q := 50) C (fx + kx) dX4_duration_49 rfl (by assumption) (by omega) (by omega) (by omega) (by decide) ?_
          refine r_il4 (q := 52) C dX4_duration_50 rfl ?_
          refine r_callS1 (q := 55) C (c_X4_durationOfBar (bt := σ (eC + 3) (fx + kx)) (tt := cTempo (σ (eC + 4)) (fx + kx)) (hbt _ (by omega) (by omega)) hcx) m_X4_77 dX4_duration_52 rfl rfl (by decide) (by decide) (Nat.le_of_ble_eq_true rfl) ?_
          
          refine r_fadd (q := 56) C (edD_add hB2 hbt htm hf (by omega)) dX4_duration_55 rfl ?_
          refine r_fs3 (q := 57) C dX4_duration_56 rfl (by decide) ?_
          refine r_iinc5 (q := 60) C dX4_duration_57 rfl (by decide) ?_
          refine r_goto (q := 12) C dX4_duration_60 (by decide) ?_
          exact ih (kx + 1) (cTempo (σ (eC + 4)) (fx + kx)) (by omega) ⟨by omega, trivial⟩ (by
            intro hle
            show (if σ (eC + 4) ((fx + kx) + 1) = 0 then cTempo (σ (eC + 4)) (fx + kx) else σ (eC + 4) ((fx + kx) + 1)) = cTempo (σ (eC + 4)) ((fx + kx) + 1)
            rfl)
        · refine r_il4 (q := 30) C dX4_duration_28 rfl ?_
          refine r_goto (q := 40) C dX4_duration_30 (by decide) ?_
          have h2k := h2 (by omega)
          rw [if_pos br25] at h2k
          have hcx := cTempo_in (t := σ (eC + 4)) (n := fx + kx) (fun i i1 i2 => htm i i1 (by omega))
          rw [h2k]
          refine r_is4 (q := 42) C dX4_duration_40 rfl (by decide) ?_
          refine r_fl3 (q := 43) C dX4_duration_42 rfl ?_
          refine r_al0 (q := 44) C dX4_duration_43 rfl ?_
          refine r_getR (q := 47) C f_X4_22 dX4_duration_44 rfl rfl (by assumption) (by assumption) (by omega) ?_
          refine r_il5 (q := 49) C dX4_duration_47 rfl ?_
          refine r_iald (q := 50) C (fx + kx) dX4_duration_49 rfl (by assumption) (by omega) (by omega) (by omega) (by decide) ?_
          refine r_il4 (q := 52) C dX4_duration_50 rfl ?_
          refine r_callS1 (q := 55) C (c_X4_durationOfBar (bt := σ (eC + 3) (fx + kx)) (tt := cTempo (σ (eC + 4)) (fx + kx)) (hbt _ (by omega) (by omega)) hcx) m_X4_77 dX4_duration_52 rfl rfl (by decide) (by decide) (Nat.le_of_ble_eq_true rfl) ?_
          
          refine r_fadd (q := 56) C (edD_add hB2 hbt htm hf (by omega)) dX4_duration_55 rfl ?_
          refine r_fs3 (q := 57) C dX4_duration_56 rfl (by decide) ?_
          refine r_iinc5 (q := 60) C dX4_duration_57 rfl (by decide) ?_
          refine r_goto (q := 12) C dX4_duration_60 (by decide) ?_
          exact ih (kx + 1) (cTempo (σ (eC + 4)) (fx + kx)) (by omega) ⟨by omega, trivial⟩ (by
            intro hle
            show (if σ (eC + 4) ((fx + kx) + 1) = 0 then cTempo (σ (eC + 4)) (fx + kx) else σ (eC + 4) ((fx + kx) + 1)) = cTempo (σ (eC + 4)) ((fx + kx) + 1)
            rfl)
  refine r_fconst0 (q := 1) C dX4_duration_0 rfl ?_
  refine r_fs3 (q := 2) C dX4_duration_1 rfl (by decide) ?_
  refine r_al0 (q := 3) C dX4_duration_2 rfl ?_
  refine r_il1 (q := 4) C dX4_duration_3 rfl ?_
  refine r_callV1 (q := 7) C (c_X4_countingTempo (fx := fx) hE (by omega) (fun i i1 i2 => by rcases htm i i1 (by omega) with h | h <;> omega)) m_X4_73 (by assumption) (by omega) dX4_duration_4 rfl rfl (by decide) (by decide) (Nat.le_of_ble_eq_true rfl) ?_
  refine r_is4 (q := 9) C dX4_duration_7 rfl (by decide) ?_
  refine r_il1 (q := 10) C dX4_duration_9 rfl ?_
  refine r_is5 (q := 12) C dX4_duration_10 rfl (by decide) ?_
  exact lp _ 0 (cTempo (σ (eC + 4)) fx) (Nat.lt_succ_self _) ⟨by omega, trivial⟩ (fun _ => by
    obtain ⟨gx, rfl⟩ : ∃ gx, fx = gx + 1 := ⟨fx - 1, by omega⟩
    show (if σ (eC + 4) (gx + 1) = 0 then cTempo (σ (eC + 4)) (gx + 1) else σ (eC + 4) (gx + 1)) = cTempo (σ (eC + 4)) (gx + 1)
    split
    · rfl
    · next h => rw [cTempo, if_neg h])
set_option maxRecDepth 20000 in
set_option maxHeartbeats 8000000 in
theorem c_X4_wholeDuration {T : oT} {σ : oM} {eC Bn : Nat} (hE : oEd T eC) (hBn : σ eC 2 = (Bn : Int)) (hB2 : Bn ≤ 99) (hbt : ∀ i, 1 ≤ i → i ≤ Bn → 1 ≤ σ (eC + 3) i ∧ σ (eC + 3) i ≤ 9) (htm : ∀ i, 1 ≤ i → i ≤ Bn → σ (eC + 4) i = 0 ∨ (200 ≤ σ (eC + 4) i ∧ σ (eC + 4) i ≤ 2500)) (hB1 : 1 ≤ Bn) : MS yX4_wholeDuration cX4_wholeDuration 1 (some FieldType.float) 2 0 0 47 [og eC] T σ (oP1 (ofl (durF (edD (σ (eC + 3)) (σ (eC + 4))) 1 Bn)) T σ) := by
  have hEc := hE
  obtain ⟨hE0, hE3, hE4, hE5, hE6, hE7, hE8, hE9, hE10, hA1, hA2, hA3, hA4, hA5, hRw, hA10, hA11, hA12, hTe⟩ := hEc
  refine o_met (by decide +kernel) (Nat.le_of_ble_eq_true rfl) (fun p l ee s m args below meth c G b C hr hn => ?_)
  have C : oCx p s m args meth c G b RX4 cX4_wholeDuration 1 := C
  show oW p l ee ({ frames := 2, cells := 0, slots := 0, locals := 47 } : Room) s m args below meth c G b 1 0 0 (MQ below (o_Qc G b (oP1 (ofl (durF (edD (σ (eC + 3)) (σ (eC + 4))) 1 Bn)) T σ)) args s 0 0 (fun q => b ≤ q)) T σ 0 [some (og eC)] []
  refine r_al0 (q := 1) C dX4_wholeDuration_0 rfl ?_
  refine r_iconst (q := 2) C dX4_wholeDuration_1 rfl ?_
  refine r_al0 (q := 3) C dX4_wholeDuration_2 rfl ?_
  refine r_getI (q := 6) C f_X4_45 dX4_wholeDuration_3 rfl rfl (by assumption) (by omega) ?_
  rw [hBn]
  refine r_callV1 (q := 9) C (c_X4_duration (fx := 1) (tx := Bn) hE hBn hB2 hbt htm (by omega) hB1 (by omega)) m_X4_81 (by assumption) (by omega) dX4_wholeDuration_6 rfl rfl (by decide) (by decide) (Nat.le_of_ble_eq_true rfl) ?_
  exact r_fret C hr dX4_wholeDuration_9 (by decide) (by decide) ⟨rfl, rfl, rfl⟩
set_option maxRecDepth 20000 in
set_option maxHeartbeats 8000000 in
theorem c_X4_firstBarBeyond {T : oT} {σ : oM} {eC Bn : Nat} {ux : UInt32} (hE : oEd T eC) (hBn : σ eC 2 = (Bn : Int)) (hB2 : Bn ≤ 99) (hbt : ∀ i, 1 ≤ i → i ≤ Bn → 1 ≤ σ (eC + 3) i ∧ σ (eC + 3) i ≤ 9) (htm : ∀ i, 1 ≤ i → i ≤ Bn → σ (eC + 4) i = 0 ∨ (200 ≤ σ (eC + 4) i ∧ σ (eC + 4) i ≤ 2500)) : MS yX4_firstBarBeyond cX4_firstBarBeyond 5 (some FieldType.int) 1 0 0 21 [og eC, ofl ux] T σ (oP1 (oi ((fbF (edD (σ (eC + 3)) (σ (eC + 4))) ux Bn 1 : Nat) : Int)) T σ) := by
  have hEc := hE
  obtain ⟨hE0, hE3, hE4, hE5, hE6, hE7, hE8, hE9, hE10, hA1, hA2, hA3, hA4, hA5, hRw, hA10, hA11, hA12, hTe⟩ := hEc
  refine o_met (by decide +kernel) (Nat.le_of_ble_eq_true rfl) (fun p l ee s m args below meth c G b C hr hn => ?_)
  have C : oCx p s m args meth c G b RX4 cX4_firstBarBeyond 5 := C
  show oW p l ee ({ frames := 1, cells := 0, slots := 0, locals := 21 } : Room) s m args below meth c G b 5 0 0 (MQ below (o_Qc G b (oP1 (oi ((fbF (edD (σ (eC + 3)) (σ (eC + 4))) ux Bn 1 : Nat) : Int)) T σ)) args s 0 0 (fun q => b ≤ q)) T σ 0 [some (og eC), some (ofl ux), none, none, none] []
  have lp : ∀ (n : Nat) (kx : Nat) (vx : Int), Bn - kx < n → (kx ≤ Bn ∧ fbF (edD (σ (eC + 3)) (σ (eC + 4))) ux Bn 1 = fbF (edD (σ (eC + 3)) (σ (eC + 4))) ux (Bn - kx) (kx + 1)) → (1 + kx ≤ Bn → (if σ (eC + 4) (1 + kx) = 0 then vx else σ (eC + 4) (1 + kx)) = cTempo (σ (eC + 4)) (1 + kx)) → oW p l ee ({ frames := 1, cells := 0, slots := 0, locals := 21 } : Room) s m args below meth c G b 5 0 0 (MQ below (o_Qc G b (oP1 (oi ((fbF (edD (σ (eC + 3)) (σ (eC + 4))) ux Bn 1 : Nat) : Int)) T σ)) args s 0 0 (fun q => b ≤ q)) T σ 9 [some (og eC), some (ofl ux), some (ofl (durF (edD (σ (eC + 3)) (σ (eC + 4))) 1 kx)), some (oi vx), some (oi ((1 + kx : Nat) : Int))] [] := by
    intro n
    induction n with
    | zero =>
      intro kx vx hms
      exact absurd hms (Nat.not_lt_zero _)
    | succ n ih =>
      intro kx vx hms h1 h2
      refine r_il4 (q := 11) C dX4_firstBarBeyond_9 rfl ?_
      refine r_al0 (q := 12) C dX4_firstBarBeyond_11 rfl ?_
      refine r_getI (q := 15) C f_X4_45 dX4_firstBarBeyond_12 rfl rfl (by assumption) (by omega) ?_
      refine r_icgt (q := 69) (q2 := 18) C (by omega) (by omega) dX4_firstBarBeyond_15 (by decide) rfl (fun br15 => ?_) (fun br15 => ?_)
      · refine r_iconst (q := 70) C dX4_firstBarBeyond_69 rfl ?_
        exact r_iret C hr dX4_firstBarBeyond_70 (by decide) (by decide) ⟨by rw [h1.2, show Bn - kx = 0 by omega]; rfl, rfl, rfl⟩
      · refine r_al0 (q := 19) C dX4_firstBarBeyond_18 rfl ?_
        refine r_getR (q := 22) C f_X4_25 dX4_firstBarBeyond_19 rfl rfl (by assumption) (by assumption) (by omega) ?_
        refine r_il4 (q := 24) C dX4_firstBarBeyond_22 rfl ?_
        refine r_iald (q := 25) C (1 + kx) dX4_firstBarBeyond_24 rfl (by assumption) (by omega) (by omega) (by omega) (by decide) ?_
        refine r_ifne (q := 32) (q2 := 28) C (by rcases htm (1 + kx) (by omega) (by omega) with h | h <;> omega) dX4_firstBarBeyond_25 (by decide) rfl (fun br25 => ?_) (fun br25 => ?_)
        · refine r_al0 (q := 33) C dX4_firstBarBeyond_32 rfl ?_
          refine r_getR (q := 36) C f_X4_25 dX4_firstBarBeyond_33 rfl rfl (by assumption) (by assumption) (by omega) ?_
          refine r_il4 (q := 38) C dX4_firstBarBeyond_36 rfl ?_
          refine r_iald (q := 39) C (1 + kx) dX4_firstBarBeyond_38 rfl (by assumption) (by omega) (by omega) (by omega) (by decide) ?_
          have h2k := h2 (by omega)
          rw [if_neg br25] at h2k
          have hcx := cTempo_in (t := σ (eC + 4)) (n := 1 + kx) (fun i i1 i2 => htm i i1 (by omega))
          rw [h2k]
          refine r_is3 (q := 40) C dX4_firstBarBeyond_39 rfl (by decide) ?_
          refine r_fl2 (q := 41) C dX4_firstBarBeyond_40 rfl ?_
          refine r_al0 (q := 42) C dX4_firstBarBeyond_41 rfl ?_
          refine r_getR (q := 45) C f_X4_22 dX4_firstBarBeyond_42 rfl rfl (by assumption) (by assumption) (by omega) ?_
          refine r_il4 (q := 47) C dX4_firstBarBeyond_45 rfl ?_
          refine r_iald (q := 48) C (1 + kx) dX4_firstBarBeyond_47 rfl (by assumption) (by omega) (by omega) (by omega) (by decide) ?_
          refine r_il3 (q := 49) C dX4_firstBarBeyond_48 rfl ?_
          refine r_callS1 (q := 52) C (c_X4_durationOfBar (bt := σ (eC + 3) (1 + kx)) (tt := cTempo (σ (eC + 4)) (1 + kx)) (hbt _ (by omega) (by omega)) hcx) m_X4_77 dX4_firstBarBeyond_49 rfl rfl (by decide) (by decide) (Nat.le_of_ble_eq_true rfl) ?_
          
          refine r_fadd (q := 53) C (edD_add hB2 hbt htm (by omega) (by omega)) dX4_firstBarBeyond_52 rfl ?_
          refine r_fs2 (q := 54) C dX4_firstBarBeyond_53 rfl (by decide) ?_
          refine r_fl2 (q := 55) C dX4_firstBarBeyond_54 rfl ?_
          refine r_fl1 (q := 56) C dX4_firstBarBeyond_55 rfl ?_
          rw [show FP.fadd (durF (edD (σ (eC + 3)) (σ (eC + 4))) 1 kx) (barD (σ (eC + 3) (1 + kx)) (cTempo (σ (eC + 4)) (1 + kx))) = durF (edD (σ (eC + 3)) (σ (eC + 4))) 1 (kx + 1) from rfl]
          have hfz := fcz_in .l (durF (edD (σ (eC + 3)) (σ (eC + 4))) 1 (kx + 1)) ux
          refine r_fcmp (q := 57) (z := (fcz .l (durF (edD (σ (eC + 3)) (σ (eC + 4))) 1 (kx + 1)) ux)) C (fcz_z _ _ _) dX4_firstBarBeyond_56 rfl ?_
          refine r_ifle (q := 63) (q2 := 60) C (by omega) dX4_firstBarBeyond_57 (by decide) rfl (fun br57 => ?_) (fun br57 => ?_)
          · refine r_iinc4 (q := 66) C dX4_firstBarBeyond_63 rfl (by decide) ?_
            refine r_goto (q := 9) C dX4_firstBarBeyond_66 (by decide) ?_
            exact ih (kx + 1) (cTempo (σ (eC + 4)) (1 + kx)) (by omega) ⟨by omega, by
              rw [h1.2, show Bn - kx = (Bn - (kx + 1)) + 1 by omega, fbF, if_neg (by omega), show kx + 1 + 1 = (kx + 1) + 1 from rfl]⟩ (by
              intro hle
              show (if σ (eC + 4) ((1 + kx) + 1) = 0 then cTempo (σ (eC + 4)) (1 + kx) else σ (eC + 4) ((1 + kx) + 1)) = cTempo (σ (eC + 4)) ((1 + kx) + 1)
              rfl)
          · refine r_il4 (q := 62) C dX4_firstBarBeyond_60 rfl ?_
            exact r_iret C hr dX4_firstBarBeyond_62 (by decide) (by decide) ⟨by rw [h1.2, show Bn - kx = (Bn - (kx + 1)) + 1 by omega, fbF, if_pos (by omega), Nat.add_comm], rfl, rfl⟩
        · refine r_il3 (q := 29) C dX4_firstBarBeyond_28 rfl ?_
          refine r_goto (q := 39) C dX4_firstBarBeyond_29 (by decide) ?_
          have h2k := h2 (by omega)
          rw [if_pos br25] at h2k
          have hcx := cTempo_in (t := σ (eC + 4)) (n := 1 + kx) (fun i i1 i2 => htm i i1 (by omega))
          rw [h2k]
          refine r_is3 (q := 40) C dX4_firstBarBeyond_39 rfl (by decide) ?_
          refine r_fl2 (q := 41) C dX4_firstBarBeyond_40 rfl ?_
          refine r_al0 (q := 42) C dX4_firstBarBeyond_41 rfl ?_
          refine r_getR (q := 45) C f_X4_22 dX4_firstBarBeyond_42 rfl rfl (by assumption) (by assumption) (by omega) ?_
          refine r_il4 (q := 47) C dX4_firstBarBeyond_45 rfl ?_
          refine r_iald (q := 48) C (1 + kx) dX4_firstBarBeyond_47 rfl (by assumption) (by omega) (by omega) (by omega) (by decide) ?_
          refine r_il3 (q := 49) C dX4_firstBarBeyond_48 rfl ?_
          refine r_callS1 (q := 52) C (c_X4_durationOfBar (bt := σ (eC + 3) (1 + kx)) (tt := cTempo (σ (eC + 4)) (1 + kx)) (hbt _ (by omega) (by omega)) hcx) m_X4_77 dX4_firstBarBeyond_49 rfl rfl (by decide) (by decide) (Nat.le_of_ble_eq_true rfl) ?_
          
          refine r_fadd (q := 53) C (edD_add hB2 hbt htm (by omega) (by omega)) dX4_firstBarBeyond_52 rfl ?_
          refine r_fs2 (q := 54) C dX4_firstBarBeyond_53 rfl (by decide) ?_
          refine r_fl2 (q := 55) C dX4_firstBarBeyond_54 rfl ?_
          refine r_fl1 (q := 56) C dX4_firstBarBeyond_55 rfl ?_
          rw [show FP.fadd (durF (edD (σ (eC + 3)) (σ (eC + 4))) 1 kx) (barD (σ (eC + 3) (1 + kx)) (cTempo (σ (eC + 4)) (1 + kx))) = durF (edD (σ (eC + 3)) (σ (eC + 4))) 1 (kx + 1) from rfl]
          have hfz := fcz_in .l (durF (edD (σ (eC + 3)) (σ (eC + 4))) 1 (kx + 1)) ux
          refine r_fcmp (q := 57) (z := (fcz .l (durF (edD (σ (eC + 3)) (σ (eC + 4))) 1 (kx + 1)) ux)) C (fcz_z _ _ _) dX4_firstBarBeyond_56 rfl ?_
          refine r_ifle (q := 63) (q2 := 60) C (by omega) dX4_firstBarBeyond_57 (by decide) rfl (fun br57 => ?_) (fun br57 => ?_)
          · refine r_iinc4 (q := 66) C dX4_firstBarBeyond_63 rfl (by decide) ?_
            refine r_goto (q := 9) C dX4_firstBarBeyond_66 (by decide) ?_
            exact ih (kx + 1) (cTempo (σ (eC + 4)) (1 + kx)) (by omega) ⟨by omega, by
              rw [h1.2, show Bn - kx = (Bn - (kx + 1)) + 1 by omega, fbF, if_neg (by omega), show kx + 1 + 1 = (kx + 1) + 1 from rfl]⟩ (by
              intro hle
              show (if σ (eC + 4) ((1 + kx) + 1) = 0 then cTempo (σ (eC + 4)) (1 + kx) else σ (eC + 4) ((1 + kx) + 1)) = cTempo (σ (eC + 4)) ((1 + kx) + 1)
              rfl)
          · refine r_il4 (q := 62) C dX4_firstBarBeyond_60 rfl ?_
            exact r_iret C hr dX4_firstBarBeyond_62 (by decide) (by decide) ⟨by rw [h1.2, show Bn - kx = (Bn - (kx + 1)) + 1 by omega, fbF, if_pos (by omega), Nat.add_comm], rfl, rfl⟩
  refine r_fconst0 (q := 1) C dX4_firstBarBeyond_0 rfl ?_
  refine r_fs2 (q := 2) C dX4_firstBarBeyond_1 rfl (by decide) ?_
  refine r_sipush (q := 5) C dX4_firstBarBeyond_2 (by decide) rfl ?_
  refine r_is3 (q := 6) C dX4_firstBarBeyond_5 rfl (by decide) ?_
  refine r_iconst (q := 7) C dX4_firstBarBeyond_6 rfl ?_
  refine r_is4 (q := 9) C dX4_firstBarBeyond_7 rfl (by decide) ?_
  exact lp _ 0 1000 (Nat.lt_succ_self _) ⟨by omega, rfl⟩ (fun _ => rfl)
set_option maxRecDepth 20000 in
set_option maxHeartbeats 8000000 in
theorem c_X8_bitsOf {T : oT} {σ : oM} {ux : UInt32} {E : Nat} (hu : oPN ux E) : MS yX8_bitsOf cX8_bitsOf 4 (some FieldType.int) 0 0 0 0 [ofl ux] T σ (oP1 (oi ((ux.toNat : Nat) : Int)) T σ) := by
  have hu0 := hu.2.1
  refine o_met (by decide +kernel) (Nat.le_of_ble_eq_true rfl) (fun p l ee s m args below meth c G b C hr hn => ?_)
  have C : oCx p s m args meth c G b RX8 cX8_bitsOf 4 := C
  show oW p l ee ({ frames := 0, cells := 0, slots := 0, locals := 0 } : Room) s m args below meth c G b 4 0 0 (MQ below (o_Qc G b (oP1 (oi ((ux.toNat : Nat) : Int)) T σ)) args s 0 0 (fun q => b ≤ q)) T σ 0 [some (ofl ux), none, none, none] []
  have lq : ∀ (n : Nat) (wx : UInt32) (Ew jx : Nat) (zz : Int), 126 - jx < n → (oPN wx Ew ∧ Ew ≤ 127 ∧ jx + 1 ≤ Ew ∧ zz + Ew = E + 127 ∧ wx.toNat % 8388608 = ux.toNat % 8388608) → oW p l ee ({ frames := 0, cells := 0, slots := 0, locals := 0 } : Room) s m args below meth c G b 4 0 0 (MQ below (o_Qc G b (oP1 (oi ((ux.toNat : Nat) : Int)) T σ)) args s 0 0 (fun q => b ≤ q)) T σ 34 [some (ofl ux), some (ofl wx), some (oi zz), some (oi ((jx : Nat) : Int))] [] := by
    intro n
    induction n with
    | zero =>
      intro wx Ew jx zz hms
      exact absurd hms (Nat.not_lt_zero _)
    | succ n ih =>
      intro wx Ew jx zz hms h1
      have hfz := fcz_in .g wx FP.fconst1
      have hfc := fcz_pn (op := .g) (vx := FP.fconst1) (E2 := 127) h1.1 (by decide)
      refine r_il3 (q := 35) C dX8_bitsOf_34 rfl ?_
      refine r_bipush (q := 37) C dX8_bitsOf_35 (by decide) rfl ?_
      refine r_icge (q := 59) (q2 := 40) C (by omega) (by omega) dX8_bitsOf_37 (by decide) rfl (fun br37 => ?_) (fun br37 => ?_)
      · obtain rfl : Ew = 127 := by omega
        obtain rfl : zz = ((E : Nat) : Int) := by omega
        have hsg := sig_pn h1.1
        have hwn : (8388608 + wx.toNat % 8388608) % 8388608 = ux.toNat % 8388608 := by omega
        have hun := hu.2.2
        have hu2 := hu.2.1
        have hux : ux.toNat = E * 8388608 + ux.toNat % 8388608 := by omega
        refine r_fl1 (q := 60) C dX8_bitsOf_59 rfl ?_
        refine r_ldcf (q := 62) C k_X8_236 dX8_bitsOf_60 rfl ?_
        refine r_fmul (q := 63) C hsg.1 dX8_bitsOf_62 rfl ?_
        refine r_f2i (q := 64) (z := ((8388608 + wx.toNat % 8388608 : Nat) : Int)) C hsg.2 dX8_bitsOf_63 rfl ?_
        refine r_is3 (q := 65) C dX8_bitsOf_64 rfl (by decide) ?_
        refine r_il2 (q := 66) C dX8_bitsOf_65 rfl ?_
        refine r_bipush (q := 68) C dX8_bitsOf_66 (by decide) rfl ?_
        refine r_ishl (q := 69) (z := ((E * 8388608 : Nat) : Int)) C (o_shl ⟨E, by omega⟩) dX8_bitsOf_68 rfl ?_
        refine r_il3 (q := 70) C dX8_bitsOf_69 rfl ?_
        refine r_ldci (q := 72) (z := 8388607) C k_X8_237 dX8_bitsOf_70 rfl ?_
        refine r_iand (q := 73) (z := (((8388608 + wx.toNat % 8388608) % 8388608 : Nat) : Int)) C (o_and (by omega)) dX8_bitsOf_72 rfl ?_
        rw [hwn]
        refine r_ior (q := 74) (z := ((E * 8388608 + ux.toNat % 8388608 : Nat) : Int)) C (o_or hu2 (by omega)) dX8_bitsOf_73 rfl ?_
        exact r_iret C hr dX8_bitsOf_74 (by decide) (by decide) ⟨by rw [← hux], rfl, rfl⟩
      · refine r_fl1 (q := 41) C dX8_bitsOf_40 rfl ?_
        refine r_fconst1 (q := 42) C dX8_bitsOf_41 rfl ?_
        refine r_fcmp (q := 43) (z := (fcz .g wx FP.fconst1)) C (fcz_z _ _ _) dX8_bitsOf_42 rfl ?_
        refine r_ifge (q := 59) (q2 := 46) C (by omega) dX8_bitsOf_43 (by decide) rfl (fun br43 => ?_) (fun br43 => ?_)
        · obtain rfl : Ew = 127 := by omega
          obtain rfl : zz = ((E : Nat) : Int) := by omega
          have hsg := sig_pn h1.1
          have hwn : (8388608 + wx.toNat % 8388608) % 8388608 = ux.toNat % 8388608 := by omega
          have hun := hu.2.2
          have hu2 := hu.2.1
          have hux : ux.toNat = E * 8388608 + ux.toNat % 8388608 := by omega
          refine r_fl1 (q := 60) C dX8_bitsOf_59 rfl ?_
          refine r_ldcf (q := 62) C k_X8_236 dX8_bitsOf_60 rfl ?_
          refine r_fmul (q := 63) C hsg.1 dX8_bitsOf_62 rfl ?_
          refine r_f2i (q := 64) (z := ((8388608 + wx.toNat % 8388608 : Nat) : Int)) C hsg.2 dX8_bitsOf_63 rfl ?_
          refine r_is3 (q := 65) C dX8_bitsOf_64 rfl (by decide) ?_
          refine r_il2 (q := 66) C dX8_bitsOf_65 rfl ?_
          refine r_bipush (q := 68) C dX8_bitsOf_66 (by decide) rfl ?_
          refine r_ishl (q := 69) (z := ((E * 8388608 : Nat) : Int)) C (o_shl ⟨E, by omega⟩) dX8_bitsOf_68 rfl ?_
          refine r_il3 (q := 70) C dX8_bitsOf_69 rfl ?_
          refine r_ldci (q := 72) (z := 8388607) C k_X8_237 dX8_bitsOf_70 rfl ?_
          refine r_iand (q := 73) (z := (((8388608 + wx.toNat % 8388608) % 8388608 : Nat) : Int)) C (o_and (by omega)) dX8_bitsOf_72 rfl ?_
          rw [hwn]
          refine r_ior (q := 74) (z := ((E * 8388608 + ux.toNat % 8388608 : Nat) : Int)) C (o_or hu2 (by omega)) dX8_bitsOf_73 rfl ?_
          exact r_iret C hr dX8_bitsOf_74 (by decide) (by decide) ⟨by rw [← hux], rfl, rfl⟩
        · refine r_fl1 (q := 47) C dX8_bitsOf_46 rfl ?_
          refine r_fconst2 (q := 48) C dX8_bitsOf_47 rfl ?_
          have hdb := dbl_pn h1.1 (by omega)
          refine r_fmul (q := 49) C (oPN_n32 hdb.1) dX8_bitsOf_48 rfl ?_
          refine r_fs1 (q := 50) C dX8_bitsOf_49 rfl (by decide) ?_
          refine r_iinc2 (q := 53) C dX8_bitsOf_50 rfl (by decide) ?_
          refine r_iinc3 (q := 56) C dX8_bitsOf_53 rfl (by decide) ?_
          refine r_goto (q := 34) C dX8_bitsOf_56 (by decide) ?_
          exact ih (FP.fmul wx FP.fconst2) (Ew + 1) (jx + 1) (zz + (-1)) (by omega) ⟨hdb.1, by omega, by omega, by omega, by have := hdb.2; omega⟩
  have lp : ∀ (n : Nat) (wx : UInt32) (Ew kx : Nat), 127 - kx < n → (oPN wx Ew ∧ Ew + kx = E ∧ wx.toNat + kx * 8388608 = ux.toNat ∧ (kx = 0 ∨ 127 ≤ Ew)) → oW p l ee ({ frames := 0, cells := 0, slots := 0, locals := 0 } : Room) s m args below meth c G b 4 0 0 (MQ below (o_Qc G b (oP1 (oi ((ux.toNat : Nat) : Int)) T σ)) args s 0 0 (fun q => b ≤ q)) T σ 7 [some (ofl ux), some (ofl wx), some (oi ((127 + kx : Nat) : Int)), some (oi ((kx : Nat) : Int))] [] := by
    intro n
    induction n with
    | zero =>
      intro wx Ew kx hms
      exact absurd hms (Nat.not_lt_zero _)
    | succ n ih =>
      intro wx Ew kx hms h1
      have hfz := fcz_in .l wx FP.fconst2
      have hfc := fcz_pn (op := .l) (vx := FP.fconst2) (E2 := 128) h1.1 (by decide)
      have hw1 := h1.1.1
      have hwE := h1.1.2.2
      refine r_il3 (q := 8) C dX8_bitsOf_7 rfl ?_
      refine r_bipush (q := 10) C dX8_bitsOf_8 (by decide) rfl ?_
      refine r_icge (q := 32) (q2 := 13) C (by omega) (by omega) dX8_bitsOf_10 (by decide) rfl (fun br10 => ?_) (fun br10 => ?_)
      · refine r_iconst (q := 33) C dX8_bitsOf_32 rfl ?_
        refine r_is3 (q := 34) C dX8_bitsOf_33 rfl (by decide) ?_
        exact lq _ wx Ew 0 ((127 + kx : Nat) : Int) (Nat.lt_succ_self _) ⟨h1.1, by omega, by omega, by omega, by omega⟩
      · refine r_fl1 (q := 14) C dX8_bitsOf_13 rfl ?_
        refine r_fconst2 (q := 15) C dX8_bitsOf_14 rfl ?_
        refine r_fcmp (q := 16) (z := (fcz .l wx FP.fconst2)) C (fcz_z _ _ _) dX8_bitsOf_15 rfl ?_
        refine r_iflt (q := 32) (q2 := 19) C (by omega) dX8_bitsOf_16 (by decide) rfl (fun br16 => ?_) (fun br16 => ?_)
        · refine r_iconst (q := 33) C dX8_bitsOf_32 rfl ?_
          refine r_is3 (q := 34) C dX8_bitsOf_33 rfl (by decide) ?_
          exact lq _ wx Ew 0 ((127 + kx : Nat) : Int) (Nat.lt_succ_self _) ⟨h1.1, by omega, by omega, by omega, by omega⟩
        · refine r_fl1 (q := 20) C dX8_bitsOf_19 rfl ?_
          refine r_fconst2 (q := 21) C dX8_bitsOf_20 rfl ?_
          have hdb := half_pn h1.1 (by omega)
          refine r_fdiv (q := 22) C (oPN_n32 hdb.1) dX8_bitsOf_21 rfl ?_
          refine r_fs1 (q := 23) C dX8_bitsOf_22 rfl (by decide) ?_
          refine r_iinc2 (q := 26) C dX8_bitsOf_23 rfl (by decide) ?_
          refine r_iinc3 (q := 29) C dX8_bitsOf_26 rfl (by decide) ?_
          refine r_goto (q := 7) C dX8_bitsOf_29 (by decide) ?_
          exact ih (FP.fdiv wx FP.fconst2) (Ew - 1) (kx + 1) (by omega) ⟨hdb.1, by omega, by have := hdb.2; omega, by omega⟩
  refine r_fl0 (q := 1) C dX8_bitsOf_0 rfl ?_
  refine r_fs1 (q := 2) C dX8_bitsOf_1 rfl (by decide) ?_
  refine r_bipush (q := 4) C dX8_bitsOf_2 (by decide) rfl ?_
  refine r_is2 (q := 5) C dX8_bitsOf_4 rfl (by decide) ?_
  refine r_iconst (q := 6) C dX8_bitsOf_5 rfl ?_
  refine r_is3 (q := 7) C dX8_bitsOf_6 rfl (by decide) ?_
  exact lp _ ux E 0 (Nat.lt_succ_self _) ⟨hu, rfl, by omega, Or.inl rfl⟩
