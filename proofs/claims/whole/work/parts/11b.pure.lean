/-! halves, doubles, the significand as a whole number -/
theorem half_pn {u : UInt32} {E : Nat} (hu : oPN u E) (h2 : 2 ≤ E) : oPN (FP.fdiv u FP.fconst2) (E - 1) ∧ (FP.fdiv u FP.fconst2).toNat = u.toNat - 8388608 := by
  have h1 := pn_dec hu
  obtain ⟨b1, b2, b3⟩ := hu
  have hc2 : FP.Core.decode o32 FP.fconst2.toNat = .fin false 8388608 (-22) := by decide
  have hx : u.toNat % 8388608 < 8388608 := by omega
  generalize hfx : u.toNat % 8388608 = fx at h1 hx
  have l1 : (8388608 + fx).log2 = 23 := log_is (by omega) (by omega)
  have l2 : (8388608 : Nat).log2 = 23 := log_is (by omega) (by omega)
  have hq : FP.Core.quotient o32 (.fin false (8388608 + fx) ((E : Int) - 150)) (.fin false 8388608 (-22)) = FP.Core.roundRatio o32 false (8388608 + fx) 8388608 ((E : Int) - 128) := by
    unfold FP.Core.quotient
    simp only
    rw [if_neg (by decide), show ((E : Int) - 150) - -22 = (E : Int) - 128 by omega]
    rfl
  have hlead : FP.Core.leading (8388608 + fx) 8388608 = 0 := by
    unfold FP.Core.leading
    simp only
    rw [l1, l2, show (((23 : Nat) : Int) - ((23 : Nat) : Int)) = 0 by omega, show (0 : Int).toNat = 0 from rfl, show (-(0 : Int)).toNat = 0 from rfl, if_pos (by omega)]
  have hQ : FP.Core.quantum o32 (8388608 + fx) 8388608 ((E : Int) - 128) = ((E - 1 : Nat) : Int) - 150 := by
    unfold FP.Core.quantum
    rw [hlead, o32_q, show ((o32.p : Nat) : Int) = 24 from rfl]
    omega
  have hU : FP.Core.unitsNum (8388608 + fx) ((E : Int) - 128) (((E - 1 : Nat) : Int) - 150) = (8388608 + fx) * 8388608 := by
    unfold FP.Core.unitsNum
    rw [show (((E : Int) - 128) - (((E - 1 : Nat) : Int) - 150)).toNat = 23 by omega]
  have hV : FP.Core.unitsDen 8388608 ((E : Int) - 128) (((E - 1 : Nat) : Int) - 150) = 8388608 := by
    unfold FP.Core.unitsDen
    rw [show ((((E - 1 : Nat) : Int) - 150) - ((E : Int) - 128)).toNat = 0 by omega]
  have hN : FP.Core.nearest ((8388608 + fx) * 8388608) 8388608 = 8388608 + fx := by
    rw [near_ex (by omega) (by decide)]
    omega
  have hR : FP.fdiv u FP.fconst2 = UInt32.ofNat (FP.Core.encode o32 (.fin false (8388608 + fx) (((E - 1 : Nat) : Int) - 150))) := by
    show UInt32.ofNat (FP.Core.encode o32 (FP.Core.quotient o32 (FP.Core.decode o32 u.toNat) (FP.Core.decode o32 FP.fconst2.toNat))) = _
    rw [h1, hc2, hq]
    rcases rr_of (ex := (E : Int) - 128) (E := E - 1) (by omega) hQ (by rw [hU, hV, hN]; omega) (by rw [hU, hV, hN]; omega) (by omega) with ⟨a1, a2⟩ | ⟨a1, a2⟩
    · rw [a2, hU, hV, hN, show 8388608 + (8388608 + fx - 8388608) = 8388608 + fx by omega]
    · rw [hU, hV, hN] at a1
      omega
  rw [hR]
  have he := pn_enc (E := E - 1) (fx := fx) (by omega) (by omega) hx
  exact ⟨he.1, by rw [he.2]; omega⟩
/-- times a power of two -/
theorem mul_pow {u v : UInt32} {E : Nat} {rx : Int} {Ex : Nat} (hu : oPN u E) (hv : FP.Core.decode o32 v.toNat = .fin false 8388608 rx) (hE : ((Ex : Nat) : Int) = (E : Int) + rx + 23) (h1 : 1 ≤ Ex) (h2 : Ex ≤ 253) : FP.fmul u v = UInt32.ofNat (FP.Core.encode o32 (.fin false (8388608 + u.toNat % 8388608) ((Ex : Int) - 150))) := by
  have hd := pn_dec hu
  have hx : u.toNat % 8388608 < 8388608 := by omega
  generalize u.toNat % 8388608 = fx at hd hx
  have hA : (8388608 + fx) * 8388608 ≠ 0 := by omega
  have l1 : ((8388608 + fx) * 8388608).log2 = 46 := log_is (by omega) (by omega)
  have hlead := lead_1 hA
  rw [l1] at hlead
  have hp : FP.Core.exactProduct (.fin false (8388608 + fx) ((E : Int) - 150)) (.fin false 8388608 rx) = .fin false ((8388608 + fx) * 8388608) ((E : Int) - 150 + rx) := rfl
  have hQ : FP.Core.quantum o32 ((8388608 + fx) * 8388608) 1 ((E : Int) - 150 + rx) = ((Ex : Nat) : Int) - 150 := by
    unfold FP.Core.quantum
    rw [hlead, o32_q, show ((o32.p : Nat) : Int) = 24 from rfl]
    omega
  have hU : FP.Core.unitsNum ((8388608 + fx) * 8388608) ((E : Int) - 150 + rx) (((Ex : Nat) : Int) - 150) = (8388608 + fx) * 8388608 := by
    unfold FP.Core.unitsNum
    rw [show (((E : Int) - 150 + rx) - (((Ex : Nat) : Int) - 150)).toNat = 0 by omega, Nat.pow_zero, Nat.mul_one]
  have hV : FP.Core.unitsDen 1 ((E : Int) - 150 + rx) (((Ex : Nat) : Int) - 150) = 8388608 := by
    unfold FP.Core.unitsDen
    rw [show ((((Ex : Nat) : Int) - 150) - ((E : Int) - 150 + rx)).toNat = 23 by omega]
  have hN : FP.Core.nearest ((8388608 + fx) * 8388608) 8388608 = 8388608 + fx := by
    rw [near_ex (by omega) (by decide)]
    omega
  show UInt32.ofNat (FP.Core.encode o32 (FP.Core.round o32 (FP.Core.exactProduct (FP.Core.decode o32 u.toNat) (FP.Core.decode o32 v.toNat)))) = _
  rw [hd, hv, hp]
  show UInt32.ofNat (FP.Core.encode o32 (FP.Core.roundRatio o32 false ((8388608 + fx) * 8388608) 1 ((E : Int) - 150 + rx))) = _
  rcases rr_of (ex := (E : Int) - 150 + rx) (E := Ex) hA hQ (by rw [hU, hV, hN]; omega) (by rw [hU, hV, hN]; omega) h2 with ⟨a1, a2⟩ | ⟨a1, a2⟩
  · rw [a2, hU, hV, hN, show 8388608 + (8388608 + fx - 8388608) = 8388608 + fx by omega]
  · rw [hU, hV, hN] at a1
    omega
theorem dbl_pn {u : UInt32} {E : Nat} (hu : oPN u E) (h2 : E ≤ 252) : oPN (FP.fmul u FP.fconst2) (E + 1) ∧ (FP.fmul u FP.fconst2).toNat = u.toNat + 8388608 := by
  have hR := mul_pow (v := FP.fconst2) (rx := -22) (Ex := E + 1) hu (by decide) (by omega) (by omega) (by omega)
  rw [hR]
  obtain ⟨b1, b2, b3⟩ := hu
  have he := pn_enc (E := E + 1) (fx := u.toNat % 8388608) (by omega) (by omega) (by omega)
  exact ⟨he.1, by rw [he.2]; omega⟩
/-- the significand -/
theorem sig_pn {u : UInt32} (hu : oPN u 127) : vf_n32 (FP.fmul u 1258291200) ∧ FP.f2i (FP.fmul u 1258291200) = Int32.ofInt ((8388608 + u.toNat % 8388608 : Nat) : Int) := by
  have hR := mul_pow (v := 1258291200) (rx := 0) (Ex := 150) hu (by decide) (by omega) (by omega) (by omega)
  obtain ⟨b1, b2, b3⟩ := hu
  have hx : u.toNat % 8388608 < 8388608 := by omega
  generalize u.toNat % 8388608 = fx at hR hx
  have he := pn_enc (E := 150) (fx := fx) (by omega) (by omega) hx
  rw [hR]
  refine ⟨oPN_n32 he.1, ?_⟩
  have hd := pn_dec he.1
  have hm : (UInt32.ofNat (FP.Core.encode o32 (FP.Core.Datum.fin false (8388608 + fx) (((150 : Nat) : Int) - 150)))).toNat % 8388608 = fx := by rw [he.2]; omega
  rw [hm] at hd
  show FP.Core.toI (FP.Core.decode o32 (UInt32.ofNat (FP.Core.encode o32 (FP.Core.Datum.fin false (8388608 + fx) (((150 : Nat) : Int) - 150)))).toNat) = _
  rw [hd]
  unfold FP.Core.toI FP.Core.toInt FP.Core.truncate FP.Core.signed
  simp only
  rw [show (((150 : Nat) : Int) - 150).toNat = 0 by omega, show (-(((150 : Nat) : Int) - 150)).toNat = 0 by omega, Nat.pow_zero, Nat.mul_one, Nat.div_one]
  congr 1
  simp only [Bool.false_eq_true, if_false]
  omega
/-! what is compared -/
theorem o_cmp (ax bx : Int) : (ax < bx → compare ax bx = Ordering.lt) ∧ (bx ≤ ax → compare ax bx = Ordering.gt ∨ compare ax bx = Ordering.eq) := by
  have e : compare ax bx = if ax < bx then Ordering.lt else if ax = bx then Ordering.eq else Ordering.gt := rfl
  rw [e]
  constructor
  · intro h
    rw [if_pos h]
  · intro h
    rw [if_neg (by omega)]
    split
    · exact Or.inr rfl
    · exact Or.inl rfl
/-- a number against a power of two -/
theorem fcmp_pn {u v : UInt32} {E1 E2 : Nat} (hu : oPN u E1) (hv : FP.Core.decode o32 v.toNat = .fin false 8388608 ((E2 : Int) - 150)) : (E1 < E2 → FP.fcmp u v = some .lt) ∧ (E2 ≤ E1 → FP.fcmp u v = some .gt ∨ FP.fcmp u v = some .eq) := by
  have h1 := pn_dec hu
  have b1 : 8388608 ≤ 8388608 + u.toNat % 8388608 ∧ 8388608 + u.toNat % 8388608 < 16777216 := by omega
  generalize hc1 : 8388608 + u.toNat % 8388608 = c1 at h1 b1
  have he : FP.fcmp u v = FP.Core.order (.fin false c1 ((E1 : Int) - 150)) (.fin false 8388608 ((E2 : Int) - 150)) := by
    show FP.Core.order (FP.Core.decode o32 u.toNat) (FP.Core.decode o32 v.toNat) = _
    rw [h1, hv]
  rw [he]
  unfold FP.Core.order FP.Core.signed FP.Core.inUnits
  simp only [Bool.false_eq_true, if_false]
  constructor
  · intro hlt
    rw [show (((E1 : Int) - 150) - min ((E1 : Int) - 150) ((E2 : Int) - 150)).toNat = 0 by omega, show (((E2 : Int) - 150) - min ((E1 : Int) - 150) ((E2 : Int) - 150)).toNat = (E2 - E1 - 1) + 1 by omega, Nat.pow_zero, Nat.mul_one]
    have p1 := Nat.two_pow_pos (E2 - E1 - 1)
    have p2 : 16777216 ≤ 8388608 * 2 ^ (E2 - E1 - 1 + 1) := by
      rw [Nat.pow_succ]
      omega
    generalize 8388608 * 2 ^ (E2 - E1 - 1 + 1) = yx at p2
    rw [(o_cmp _ _).1 (by omega)]
  · intro hlt
    rw [show (((E2 : Int) - 150) - min ((E1 : Int) - 150) ((E2 : Int) - 150)).toNat = 0 by omega, show (((E1 : Int) - 150) - min ((E1 : Int) - 150) ((E2 : Int) - 150)).toNat = E1 - E2 by omega, Nat.pow_zero, Nat.mul_one]
    have p2 : 8388608 * 1 ≤ c1 * 2 ^ (E1 - E2) := Nat.mul_le_mul b1.1 (Nat.two_pow_pos _)
    generalize c1 * 2 ^ (E1 - E2) = yx at p2
    rcases (o_cmp ((yx : Nat) : Int) ((8388608 : Nat) : Int)).2 (by omega) with h | h
    · exact Or.inl (by rw [h])
    · exact Or.inr (by rw [h])
/-! durations -/
theorem i2f_beats : ∀ n : Fin 892, 1 ≤ n.val → 132 ≤ (FP.fmul (FP.i2f (Int32.ofInt ((n.val : Nat) : Int))) 1114636288).toNat / 8388608 ∧ (FP.fmul (FP.i2f (Int32.ofInt ((n.val : Nat) : Int))) 1114636288).toNat / 8388608 ≤ 142 := by decide +kernel
theorem beat_E : ∀ n : Fin 10, 1 ≤ n.val → 132 ≤ (FP.fmul (FP.i2f (Int32.ofInt ((n.val : Nat) : Int))) 1114636288).toNat / 8388608 ∧ (FP.fmul (FP.i2f (Int32.ofInt ((n.val : Nat) : Int))) 1114636288).toNat / 8388608 ≤ 136 := by decide +kernel
theorem tempo_E : ∀ n : Fin 2501, 200 ≤ n.val → 131 ≤ (FP.fdiv (FP.i2f (Int32.ofInt ((n.val : Nat) : Int))) 1092616192).toNat / 8388608 ∧ (FP.fdiv (FP.i2f (Int32.ofInt ((n.val : Nat) : Int))) 1092616192).toNat / 8388608 ≤ 134 := by decide +kernel
