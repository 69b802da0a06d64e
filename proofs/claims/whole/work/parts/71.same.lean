/-! the class's list and the reference's are the same -/
theorem settle_0 {rx wi : Int} {Lh : List (Nat → Int)} {A : Nat → Int} (h : wi = 0) : settleL rx wi Lh A = if rx < 0 ∧ rx ≠ -7 then Lh else hpush Lh A := by
  unfold settleL
  rw [kept_0 h]
theorem settle_m {rx : Int} {Lh : List (Nat → Int)} {A B : Nat → Int} (h : B ∈ (if rx < 0 ∧ rx ≠ -7 then Lh else hpush Lh A)) : B ∈ Lh ∨ B = A := by
  by_cases hc : rx < 0 ∧ rx ≠ -7
  · rw [if_pos hc] at h
    exact Or.inl h
  · rw [if_neg hc] at h
    exact hpush_m h
