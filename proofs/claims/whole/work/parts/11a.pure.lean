/-! floats: the positive normal numbers, by exponent -/
abbrev o32 : FP.Core.Fmt := FP.Core.b32
theorem o32_t : FP.Core.Fmt.tails o32 = 8388608 := rfl
theorem o32_e : FP.Core.Fmt.exps o32 = 256 := rfl
theorem o32_q : FP.Core.Fmt.qmin o32 = -149 := by decide
theorem o32_Q : FP.Core.Fmt.qmax o32 = 104 := by decide
/-- the positive number with the exponent field E -/
def oPN (u : UInt32) (E : Nat) : Prop := 1 ≤ E ∧ E ≤ 254 ∧ u.toNat / 8388608 = E
theorem oPN_n32 {u : UInt32} {E : Nat} (h : oPN u E) : vf_n32 u := by
  obtain ⟨h1, h2, h3⟩ := h
  unfold vf_n32
  rw [UInt32.le_iff_toNat_le, UInt32.toNat_and]
  have e1 : (0x7f800000 : UInt32).toNat = 2139095040 := rfl
  have e2 : (0x7fffffff : UInt32).toNat = 2 ^ 31 - 1 := rfl
  rw [e1, e2, Nat.and_two_pow_sub_one_eq_mod]
  omega
theorem pn_dec {u : UInt32} {E : Nat} (h : oPN u E) : FP.Core.decode o32 u.toNat = .fin false (8388608 + u.toNat % 8388608) ((E : Int) - 150) := by
  obtain ⟨h1, h2, h3⟩ := h
  have f1 : FP.Core.fieldE o32 u.toNat = E := by
    unfold FP.Core.fieldE
    rw [o32_t, o32_e, h3]
    omega
  have f2 : FP.Core.fieldT o32 u.toNat = u.toNat % 8388608 := by
    unfold FP.Core.fieldT
    rw [o32_t]
  have f3 : FP.Core.fieldS o32 u.toNat = false := by
    unfold FP.Core.fieldS
    rw [o32_t, o32_e, h3, show E / 256 = 0 by omega]
    rfl
  unfold FP.Core.decode
  rw [f1, f2, f3, o32_e, o32_t, o32_q, if_neg (by omega), if_neg (by omega), show (-149 : Int) + ((E : Int) - 1) = (E : Int) - 150 by omega]
theorem pn_enc {E fx : Nat} (h1 : 1 ≤ E) (h2 : E ≤ 254) (h3 : fx < 8388608) : oPN (UInt32.ofNat (FP.Core.encode o32 (.fin false (8388608 + fx) ((E : Int) - 150)))) E ∧ (UInt32.ofNat (FP.Core.encode o32 (.fin false (8388608 + fx) ((E : Int) - 150)))).toNat = E * 8388608 + fx := by
  have e0 : FP.Core.encode o32 (.fin false (8388608 + fx) ((E : Int) - 150)) = E * 8388608 + fx := by
    unfold FP.Core.encode FP.Core.assemble
    simp only
    rw [o32_t, o32_e, o32_q, if_neg (by omega), show (((E : Int) - 150) - -149).toNat + 1 = E by omega, show false.toNat = 0 from rfl, show 8388608 + fx - 8388608 = fx by omega, Nat.zero_mul, Nat.zero_add]
  have e1 : (UInt32.ofNat (FP.Core.encode o32 (.fin false (8388608 + fx) ((E : Int) - 150)))).toNat = E * 8388608 + fx := by
    rw [e0, UInt32.toNat_ofNat', Nat.mod_eq_of_lt (by omega)]
  exact ⟨⟨h1, h2, by rw [e1]; omega⟩, e1⟩
theorem near_lo (Nx Bx : Nat) : Nx / Bx ≤ FP.Core.nearest Nx Bx := by
  unfold FP.Core.nearest
  generalize Nx / Bx = qx
  split
  · omega
  · split <;> omega
theorem near_hi (Nx Bx : Nat) : FP.Core.nearest Nx Bx ≤ Nx / Bx + 1 := by
  unfold FP.Core.nearest
  generalize Nx / Bx = qx
  split
  · omega
  · split <;> omega
theorem near_ex {Nx Bx : Nat} (h : Nx % Bx = 0) (hb : 0 < Bx) : FP.Core.nearest Nx Bx = Nx / Bx := by
  unfold FP.Core.nearest
  rw [h, if_pos (by omega)]
/-- a number rounded, if its last digit's place is known -/
theorem rr_of {Ax Bx : Nat} {ex : Int} {E : Nat} (hA : Ax ≠ 0) (hQ : FP.Core.quantum o32 Ax Bx ex = (E : Int) - 150) (hn : 8388608 ≤ FP.Core.nearest (FP.Core.unitsNum Ax ex ((E : Int) - 150)) (FP.Core.unitsDen Bx ex ((E : Int) - 150))) (hn2 : FP.Core.nearest (FP.Core.unitsNum Ax ex ((E : Int) - 150)) (FP.Core.unitsDen Bx ex ((E : Int) - 150)) ≤ 16777216) (h1 : E ≤ 253) :
    (FP.Core.nearest (FP.Core.unitsNum Ax ex ((E : Int) - 150)) (FP.Core.unitsDen Bx ex ((E : Int) - 150)) < 16777216 ∧ FP.Core.roundRatio o32 false Ax Bx ex = .fin false (8388608 + (FP.Core.nearest (FP.Core.unitsNum Ax ex ((E : Int) - 150)) (FP.Core.unitsDen Bx ex ((E : Int) - 150)) - 8388608)) ((E : Int) - 150)) ∨
    (FP.Core.nearest (FP.Core.unitsNum Ax ex ((E : Int) - 150)) (FP.Core.unitsDen Bx ex ((E : Int) - 150)) = 16777216 ∧ FP.Core.roundRatio o32 false Ax Bx ex = .fin false (8388608 + 0) (((E + 1 : Nat) : Int) - 150)) := by
  unfold FP.Core.roundRatio FP.Core.roundAt FP.Core.settle FP.Core.bound
  rw [if_neg hA, hQ, o32_Q, o32_t, show (2 : Nat) ^ o32.p = 16777216 from rfl]
  generalize FP.Core.nearest (FP.Core.unitsNum Ax ex ((E : Int) - 150)) (FP.Core.unitsDen Bx ex ((E : Int) - 150)) = nx at hn hn2 ⊢
  by_cases h : nx < 16777216
  · refine Or.inl ⟨h, ?_⟩
    rw [if_pos h, if_pos (by omega), show 8388608 + (nx - 8388608) = nx by omega]
  · refine Or.inr ⟨by omega, ?_⟩
    rw [if_neg h, if_pos (by omega), show (E : Int) - 150 + 1 = ((E + 1 : Nat) : Int) - 150 by omega]
theorem log_is {Nx kx : Nat} (h1 : 2 ^ kx ≤ Nx) (h2 : Nx < 2 ^ (kx + 1)) : Nx.log2 = kx := by
  have h0 : Nx ≠ 0 := by
    have := Nat.two_pow_pos kx
    omega
  have a1 := (Nat.le_log2 h0).mpr h1
  have a2 := (Nat.log2_lt h0).mpr h2
  omega
theorem lead_1 {Nx : Nat} (h0 : Nx ≠ 0) : FP.Core.leading Nx 1 = (Nx.log2 : Int) := by
  unfold FP.Core.leading
  simp only
  rw [show (1 : Nat).log2 = 0 from by decide, show ((Nx.log2 : Int) - ((0 : Nat) : Int)) = (Nx.log2 : Int) by omega, show ((Nx.log2 : Int)).toNat = Nx.log2 by omega, show (-(Nx.log2 : Int)).toNat = 0 by omega, if_pos ?_]
  have := Nat.log2_self_le h0
  omega
/-- a whole number of the last places rounded: its exponent -/
theorem rnd_N {Nx mx E2 Mx : Nat} (hm : 1 ≤ mx) (hE : mx ≤ E2) (hM : E2 ≤ Mx) (hMx : Mx ≤ 252) (h1 : 8388608 * 2 ^ (E2 - mx) ≤ Nx) (h2 : Nx ≤ 16777215 * 2 ^ (Mx - mx + 1)) :
    ∃ (E fx : Nat), FP.Core.roundRatio o32 false Nx 1 ((mx : Int) - 150) = .fin false (8388608 + fx) ((E : Int) - 150) ∧ fx < 8388608 ∧ E2 ≤ E ∧ E ≤ Mx + 1 := by
  have p1 := Nat.two_pow_pos (E2 - mx)
  have h0 : Nx ≠ 0 := by omega
  have l1 : 23 + (E2 - mx) ≤ Nx.log2 := (Nat.le_log2 h0).mpr (by rw [Nat.pow_add]; exact h1)
  have p2 := Nat.two_pow_pos (Mx - mx + 1)
  have l2 : Nx.log2 < 24 + (Mx - mx + 1) := (Nat.log2_lt h0).mpr (by rw [Nat.pow_add, show (2 : Nat) ^ 24 = 16777216 from rfl]; omega)
  have l3 := Nat.log2_self_le h0
  have l4 : Nx < 2 ^ (Nx.log2 + 1) := (Nat.log2_lt h0).mp (Nat.lt_succ_self _)
  have hlead := lead_1 h0
  generalize hL : Nx.log2 = Lx at l1 l2 l3 l4 hlead
  obtain ⟨kx, rfl⟩ : ∃ kx, Lx = 23 + kx := ⟨Lx - 23, by omega⟩
  have hQ : FP.Core.quantum o32 Nx 1 ((mx : Int) - 150) = ((kx + mx : Nat) : Int) - 150 := by
    unfold FP.Core.quantum
    rw [hlead, o32_q, show ((o32.p : Nat) : Int) = 24 from rfl]
    omega
  have hU : FP.Core.unitsNum Nx ((mx : Int) - 150) (((kx + mx : Nat) : Int) - 150) = Nx := by
    unfold FP.Core.unitsNum
    rw [show (((mx : Int) - 150) - (((kx + mx : Nat) : Int) - 150)).toNat = 0 by omega, Nat.pow_zero, Nat.mul_one]
  have hV : FP.Core.unitsDen 1 ((mx : Int) - 150) (((kx + mx : Nat) : Int) - 150) = 2 ^ kx := by
    unfold FP.Core.unitsDen
    rw [show ((((kx + mx : Nat) : Int) - 150) - ((mx : Int) - 150)).toNat = kx by omega, Nat.one_mul]
  have pk := Nat.two_pow_pos kx
  have d1 : 8388608 ≤ Nx / 2 ^ kx := (Nat.le_div_iff_mul_le pk).mpr (by rw [Nat.pow_add] at l3; exact l3)
  have d2 : Nx / 2 ^ kx < 16777216 := (Nat.div_lt_iff_lt_mul pk).mpr (by rw [show 23 + kx + 1 = 24 + kx by omega, Nat.pow_add] at l4; exact l4)
  have n1 := near_lo Nx (2 ^ kx)
  have n2 := near_hi Nx (2 ^ kx)
  rcases rr_of (ex := (mx : Int) - 150) (E := kx + mx) h0 hQ (by rw [hU, hV]; omega) (by rw [hU, hV]; omega) (by omega) with ⟨a1, a2⟩ | ⟨a1, a2⟩
  · rw [hU, hV] at a1 a2
    exact ⟨kx + mx, _, a2, by omega, by omega, by omega⟩
  · refine ⟨kx + mx + 1, 0, a2, by omega, by omega, ?_⟩
    rw [hU, hV] at a1
    rcases (show kx + mx ≤ Mx ∨ kx = Mx - mx + 1 by omega) with hk | hk
    · omega
    · exfalso
      subst hk
      have d3 : Nx / 2 ^ (Mx - mx + 1) ≤ 16777215 := by omega
      rcases (show Nx / 2 ^ (Mx - mx + 1) < 16777215 ∨ Nx / 2 ^ (Mx - mx + 1) = 16777215 by omega) with hd2 | hd2
      · omega
      · have e1 := Nat.div_add_mod Nx (2 ^ (Mx - mx + 1))
        rw [hd2, Nat.mul_comm] at e1
        have e2 := near_ex (Nx := Nx) (Bx := 2 ^ (Mx - mx + 1)) (by omega) pk
        omega
/-- a sum's exponent -/
theorem fadd_dec {u v : UInt32} {c1 c2 E1 E2 : Nat} (hu : FP.Core.decode o32 u.toNat = .fin false c1 ((E1 : Int) - 150)) (hv : FP.Core.decode o32 v.toNat = .fin false c2 ((E2 : Int) - 150)) (h1 : 1 ≤ E1) (h2 : 1 ≤ E2) (hc1 : c1 ≤ 16777215) (hc2 : c2 ≤ 16777215) (hc3 : 8388608 ≤ c2) (hM1 : E1 ≤ 252) (hM2 : E2 ≤ 252) : ∃ E, oPN (FP.fadd u v) E ∧ E2 ≤ E ∧ E ≤ max E1 E2 + 1 := by
  have key : ∃ (Nx mx : Nat), FP.Core.exactSum (.fin false c1 ((E1 : Int) - 150)) (.fin false c2 ((E2 : Int) - 150)) = .fin false Nx ((mx : Int) - 150) ∧ 1 ≤ mx ∧ mx ≤ E2 ∧ mx ≤ E1 ∧ 8388608 * 2 ^ (E2 - mx) ≤ Nx ∧ Nx ≤ 16777215 * 2 ^ (max E1 E2 - mx + 1) := by
    refine ⟨c1 * 2 ^ (E1 - min E1 E2) + c2 * 2 ^ (E2 - min E1 E2), min E1 E2, ?_, by omega, by omega, by omega, ?_, ?_⟩
    · have p2 := Nat.mul_le_mul_right (2 ^ (E2 - min E1 E2)) hc3
      have p3 := Nat.two_pow_pos (E2 - min E1 E2)
      have e0 : FP.Core.sumUnits false c1 ((E1 : Int) - 150) false c2 ((E2 : Int) - 150) (min ((E1 : Int) - 150) ((E2 : Int) - 150)) = ((c1 * 2 ^ (E1 - min E1 E2) + c2 * 2 ^ (E2 - min E1 E2) : Nat) : Int) := by
        unfold FP.Core.sumUnits FP.Core.signed FP.Core.inUnits
        rw [show (((E1 : Int) - 150) - min ((E1 : Int) - 150) ((E2 : Int) - 150)).toNat = E1 - min E1 E2 by omega, show (((E2 : Int) - 150) - min ((E1 : Int) - 150) ((E2 : Int) - 150)).toNat = E2 - min E1 E2 by omega]
        simp
      unfold FP.Core.exactSum
      simp only
      rw [e0]
      have e2 : min ((E1 : Int) - 150) ((E2 : Int) - 150) = ((min E1 E2 : Nat) : Int) - 150 := by omega
      rw [e2]
      have e3 : FP.Core.sumSign false false ((c1 * 2 ^ (E1 - min E1 E2) + c2 * 2 ^ (E2 - min E1 E2) : Nat) : Int) = false := by
        unfold FP.Core.sumSign
        generalize c1 * 2 ^ (E1 - min E1 E2) + c2 * 2 ^ (E2 - min E1 E2) = yx
        split
        · rfl
        · exact decide_eq_false (by omega)
      rw [e3, Int.natAbs_natCast]
    · have p2 := Nat.mul_le_mul_right (2 ^ (E2 - min E1 E2)) hc3
      omega
    · have p1 : c1 * 2 ^ (E1 - min E1 E2) ≤ 16777215 * 2 ^ (max E1 E2 - min E1 E2) := Nat.mul_le_mul hc1 (Nat.pow_le_pow_right (by decide) (by omega))
      have p2 : c2 * 2 ^ (E2 - min E1 E2) ≤ 16777215 * 2 ^ (max E1 E2 - min E1 E2) := Nat.mul_le_mul hc2 (Nat.pow_le_pow_right (by decide) (by omega))
      rw [Nat.pow_succ]
      omega
  obtain ⟨Nx, mx, k1, k2, k3, k4, k5, k6⟩ := key
  obtain ⟨E, fx, r1, r2, r3, r4⟩ := rnd_N k2 k3 (by omega) (by omega) k5 k6
  refine ⟨E, ?_, r3, r4⟩
  show oPN (UInt32.ofNat (FP.Core.encode o32 (FP.Core.round o32 (FP.Core.exactSum (FP.Core.decode o32 u.toNat) (FP.Core.decode o32 v.toNat))))) E
  rw [hu, hv, k1]
  show oPN (UInt32.ofNat (FP.Core.encode o32 (FP.Core.roundRatio o32 false Nx 1 ((mx : Int) - 150)))) E
  rw [r1]
  exact (pn_enc (by omega) (by omega) r2).1
theorem fadd_pn {u v : UInt32} {E1 E2 : Nat} (hu : oPN u E1) (hv : oPN v E2) (hM1 : E1 ≤ 252) (hM2 : E2 ≤ 252) : ∃ E, oPN (FP.fadd u v) E ∧ E2 ≤ E ∧ E ≤ max E1 E2 + 1 :=
  fadd_dec (pn_dec hu) (pn_dec hv) hu.1 hv.1 (by omega) (by omega) (by omega) hM1 hM2
theorem fadd_0 {v : UInt32} {E2 : Nat} (hv : oPN v E2) (hM2 : E2 ≤ 252) : ∃ E, oPN (FP.fadd FP.fconst0 v) E ∧ E2 ≤ E ∧ E ≤ E2 + 1 := by
  obtain ⟨E, a1, a2, a3⟩ := fadd_dec (u := FP.fconst0) (c1 := 0) (E1 := 1) (by decide) (pn_dec hv) (by omega) hv.1 (by omega) (by omega) (by omega) (by omega) hM2
  exact ⟨E, a1, a2, by have := hv.1; omega⟩
/-- a quotient's exponent -/
theorem fdiv_pn {u v : UInt32} {E1 E2 : Nat} (hu : oPN u E1) (hv : oPN v E2) (hM1 : E2 ≤ E1 + 125) (hM2 : E1 ≤ E2 + 125) : ∃ E, oPN (FP.fdiv u v) E ∧ E1 + 126 ≤ E + E2 ∧ E + E2 ≤ E1 + 128 := by
  have h1 := pn_dec hu
  have h2 := pn_dec hv
  generalize hc1 : 8388608 + u.toNat % 8388608 = c1 at h1
  generalize hc2 : 8388608 + v.toNat % 8388608 = c2 at h2
  have b1 : 8388608 ≤ c1 ∧ c1 < 16777216 := by omega
  have b2 : 8388608 ≤ c2 ∧ c2 < 16777216 := by omega
  have l1 : c1.log2 = 23 := log_is (by omega) (by omega)
  have l2 : c2.log2 = 23 := log_is (by omega) (by omega)
  have hq : FP.Core.quotient o32 (.fin false c1 ((E1 : Int) - 150)) (.fin false c2 ((E2 : Int) - 150)) = FP.Core.roundRatio o32 false c1 c2 ((E1 : Int) - (E2 : Int)) := by
    unfold FP.Core.quotient
    simp only
    rw [if_neg (by omega), show ((E1 : Int) - 150) - ((E2 : Int) - 150) = (E1 : Int) - (E2 : Int) by omega]
    rfl
  have hlead : FP.Core.leading c1 c2 = if c2 ≤ c1 then 0 else -1 := by
    unfold FP.Core.leading
    simp only
    rw [l1, l2, show (((23 : Nat) : Int) - ((23 : Nat) : Int)) = 0 by omega, show (0 : Int).toNat = 0 from rfl, show (-(0 : Int)).toNat = 0 from rfl, Nat.pow_zero, Nat.mul_one, Nat.mul_one]
    rfl
  have main : ∀ (kx Ex : Nat), (kx = 23 ∨ kx = 24) → Ex + E2 + kx = E1 + 150 → FP.Core.quantum o32 c1 c2 ((E1 : Int) - (E2 : Int)) = (Ex : Int) - 150 → 8388608 * c2 ≤ c1 * 2 ^ kx → c1 * 2 ^ kx < 16777216 * c2 → ∃ E, oPN (FP.fdiv u v) E ∧ Ex ≤ E ∧ E ≤ Ex + 1 := by
    intro kx Ex hk hEx hQ g1 g2
    have hU : FP.Core.unitsNum c1 ((E1 : Int) - (E2 : Int)) ((Ex : Int) - 150) = c1 * 2 ^ kx := by
      unfold FP.Core.unitsNum
      rw [show (((E1 : Int) - (E2 : Int)) - ((Ex : Int) - 150)).toNat = kx by omega]
    have hV : FP.Core.unitsDen c2 ((E1 : Int) - (E2 : Int)) ((Ex : Int) - 150) = c2 := by
      unfold FP.Core.unitsDen
      rw [show (((Ex : Int) - 150) - ((E1 : Int) - (E2 : Int))).toNat = 0 by omega, Nat.pow_zero, Nat.mul_one]
    have d1 : 8388608 ≤ c1 * 2 ^ kx / c2 := (Nat.le_div_iff_mul_le (by omega)).mpr g1
    have d2 : c1 * 2 ^ kx / c2 < 16777216 := (Nat.div_lt_iff_lt_mul (by omega)).mpr g2
    have n1 := near_lo (c1 * 2 ^ kx) c2
    have n2 := near_hi (c1 * 2 ^ kx) c2
    have fin_ : ∀ (E fx : Nat), FP.Core.roundRatio o32 false c1 c2 ((E1 : Int) - (E2 : Int)) = .fin false (8388608 + fx) ((E : Int) - 150) → fx < 8388608 → 1 ≤ E → E ≤ 254 → oPN (FP.fdiv u v) E := by
      intro E fx r1 r2 r3 r4
      show oPN (UInt32.ofNat (FP.Core.encode o32 (FP.Core.quotient o32 (FP.Core.decode o32 u.toNat) (FP.Core.decode o32 v.toNat)))) E
      rw [h1, h2, hq, r1]
      exact (pn_enc r3 r4 r2).1
    rcases rr_of (ex := (E1 : Int) - (E2 : Int)) (E := Ex) (by omega) hQ (by rw [hU, hV]; omega) (by rw [hU, hV]; omega) (by omega) with ⟨a1, a2⟩ | ⟨a1, a2⟩
    · rw [hU, hV] at a1 a2
      exact ⟨Ex, fin_ _ _ a2 (by omega) (by omega) (by omega), by omega, by omega⟩
    · exact ⟨Ex + 1, fin_ _ _ a2 (by omega) (by omega) (by omega), by omega, by omega⟩
  have qd : FP.Core.quantum o32 c1 c2 ((E1 : Int) - (E2 : Int)) = max (-149) ((if c2 ≤ c1 then 0 else -1) + ((E1 : Int) - (E2 : Int)) - 23) := by
    unfold FP.Core.quantum
    rw [hlead, o32_q, show ((o32.p : Nat) : Int) = 24 from rfl]
    rfl
  by_cases hcc : c2 ≤ c1
  · obtain ⟨E, a1, a2, a3⟩ := main 23 (E1 + 127 - E2) (Or.inl rfl) (by omega) (by rw [qd, if_pos hcc]; omega) (by omega) (by omega)
    exact ⟨E, a1, by omega, by omega⟩
  · obtain ⟨E, a1, a2, a3⟩ := main 24 (E1 + 126 - E2) (Or.inr rfl) (by omega) (by rw [qd, if_neg hcc]; omega) (by omega) (by omega)
    exact ⟨E, a1, by omega, by omega⟩
