/-! changes of the holdings that are now -/
/-- the holdings say A now, the latest reason is rf, all else stays -/
def oCh (σ σ2 : oM) (xC : Nat) (A : Nat → Int) (rf : Int) : Prop := oHR σ2 (xC + 1) A ∧ (∀ x, x ≠ xC → (x < xC + 1 ∨ xC + 105 ≤ x) → σ2 x = σ x) ∧ (∀ kx, kx ≠ 10 → σ2 xC kx = σ xC kx) ∧ σ2 xC 10 = rf
theorem oCh_rf {σ : oM} {xC : Nat} {A : Nat → Int} (h : oHR σ (xC + 1) A) : oCh σ σ xC A (σ xC 10) := ⟨h, fun _ _ _ => rfl, fun _ _ => rfl, rfl⟩
theorem oCh_up {σ : oM} {xC ax kx : Nat} {A : Nat → Int} {tx : Int} (h : oHR (o_up σ ax kx tx) (xC + 1) A) (h1 : xC + 1 ≤ ax) (h2 : ax < xC + 105) : oCh σ (o_up σ ax kx tx) xC A (σ xC 10) :=
  ⟨h, fun x _ h4 => o_up_ne (by omega), fun k _ => by rw [o_up_ne (by omega)], by rw [o_up_ne (by omega)]⟩
def fTempo (A : Nat → Int) (z v w : Int) : Int × (Nat → Int) :=
  if isBrF A z v then (if w ≠ 0 ∧ ¬ (200 ≤ w ∧ w ≤ 2500) then (-2, A) else ((if A (193 + 813 * z.toNat + 8 * v.toNat) = 0 then -7 else A (193 + 813 * z.toNat + 8 * v.toNat)), updF A (193 + 813 * z.toNat + 8 * v.toNat) w)) else (-1, A)
def fBow (A : Nat → Int) (z v u w : Int) : Int × (Nat → Int) :=
  if isBrF A z u ∧ 0 ≤ v ∧ v ≤ 3 then (if 0 ≤ w ∧ w ≤ 4 then (A (194 + 813 * z.toNat + 8 * u.toNat + v.toNat), updF A (194 + 813 * z.toNat + 8 * u.toNat + v.toNat) w) else (-2, A)) else (-1, A)
theorem fTempo_I {Bd : Int} {A : Nat → Int} {z v w : Int} (h : oI Bd A) : oI Bd (fTempo A z v w).2 := by
  unfold fTempo
  by_cases h1 : isBrF A z v
  · rw [if_pos h1]
    obtain ⟨eN, bN, rfl, rfl, g1, g2, g3, g4, g5⟩ := isBr_n h h1
    by_cases h2 : w ≠ 0 ∧ ¬ (200 ≤ w ∧ w ≤ 2500)
    · rw [if_pos h2]
      exact h
    · rw [if_neg h2, Int.toNat_natCast, Int.toNat_natCast]
      have hk := oI_upB (bN := bN) (kN := 3) (tx := w) h g1 g3 (by omega) (by omega) (by omega) (fun hc => by omega) (fun hc => by omega) (fun _ => by omega) (fun hc => by omega)
      rw [show 190 + 813 * eN + 8 * bN + 3 = 193 + 813 * eN + 8 * bN by omega] at hk
      exact hk
  · rw [if_neg h1]
    exact h
theorem fBow_I {Bd : Int} {A : Nat → Int} {z v u w : Int} (h : oI Bd A) : oI Bd (fBow A z v u w).2 := by
  unfold fBow
  by_cases h1 : isBrF A z u ∧ 0 ≤ v ∧ v ≤ 3
  · rw [if_pos h1]
    obtain ⟨eN, bN, rfl, rfl, g1, g2, g3, g4, g5⟩ := isBr_n h h1.1
    by_cases h2 : 0 ≤ w ∧ w ≤ 4
    · rw [if_pos h2, Int.toNat_natCast, Int.toNat_natCast]
      have hk := oI_upB (bN := bN) (kN := 4 + v.toNat) (tx := w) h g1 g3 (by omega) (by omega) (by omega) (fun hc => by omega) (fun hc => by omega) (fun hc => by omega) (fun _ => h2)
      rw [show 190 + 813 * eN + 8 * bN + (4 + v.toNat) = 194 + 813 * eN + 8 * bN + v.toNat by omega] at hk
      exact hk
    · rw [if_neg h2]
      exact h
  · rw [if_neg h1]
    exact h
