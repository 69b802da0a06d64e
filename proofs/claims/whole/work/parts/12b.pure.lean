/-! the answers of the calls that only read, over A -/
def fStock (A : Nat → Int) (z v w : Int) : Int :=
  if isEdF A z ∧ 0 ≤ v ∧ v ≤ 5 then
    (if w = 0 then A (180 + 813 * z.toNat + 3 * v.toNat) else if w = 1 then A (180 + 813 * z.toNat + 3 * v.toNat) - A (181 + 813 * z.toNat + 3 * v.toNat) - A (182 + 813 * z.toNat + 3 * v.toNat)
     else if w = 2 then A (181 + 813 * z.toNat + 3 * v.toNat) else if w = 3 then A (182 + 813 * z.toNat + 3 * v.toNat) else -1)
  else -1
def fBowing (A : Nat → Int) (z v w : Int) : Int := if isBrF A z w ∧ 0 ≤ v ∧ v ≤ 3 then A (194 + 813 * z.toNat + 8 * w.toNat + v.toNat) else -1
def fBar (A : Nat → Int) (z v w : Int) : Int :=
  if isBrF A z v then
    (if w = 0 then A (190 + 813 * z.toNat + 8 * v.toNat) else if w = 1 then A (191 + 813 * z.toNat + 8 * v.toNat) else if w = 2 then A (192 + 813 * z.toNat + 8 * v.toNat)
     else if w = 3 then (if A (193 + 813 * z.toNat + 8 * v.toNat) = 0 then -7 else A (193 + 813 * z.toNat + 8 * v.toNat)) else if w = 4 then cTempo (fun j => A (193 + 813 * z.toNat + 8 * j)) v.toNat else -1)
  else -1
theorem oHR_c {σ : oM} {hC ex ix : Nat} {A : Nat → Int} (h : oHR σ hC A) (he : ex < nEd A) (hi : ix < 6) : σ (hC + 2 + 13 * ex + 10) ix = A (180 + 813 * ex + 3 * ix) - A (181 + 813 * ex + 3 * ix) - A (182 + 813 * ex + 3 * ix) ∧ σ (hC + 2 + 13 * ex + 11) ix = A (181 + 813 * ex + 3 * ix) ∧ σ (hC + 2 + 13 * ex + 12) ix = A (182 + 813 * ex + 3 * ix) := by
  have h1 := (h.2.2.2.2.2.2 ex he).2.2.2.1 ix hi
  rw [show 177 + 813 * ex + 3 + 3 * ix = 180 + 813 * ex + 3 * ix by omega, show 177 + 813 * ex + 4 + 3 * ix = 181 + 813 * ex + 3 * ix by omega, show 177 + 813 * ex + 5 + 3 * ix = 182 + 813 * ex + 3 * ix by omega] at h1
  exact h1
theorem oHR_b {σ : oM} {hC ex jx : Nat} {A : Nat → Int} (h : oHR σ hC A) (he : ex < nEd A) (h1 : 1 ≤ jx) (h2 : jx ≤ nBr A ex) : σ (hC + 2 + 13 * ex + 1) jx = A (190 + 813 * ex + 8 * jx) ∧ σ (hC + 2 + 13 * ex + 2) jx = A (191 + 813 * ex + 8 * jx) ∧ σ (hC + 2 + 13 * ex + 3) jx = A (192 + 813 * ex + 8 * jx) ∧ σ (hC + 2 + 13 * ex + 4) jx = A (193 + 813 * ex + 8 * jx) ∧ ∀ ix, ix < 4 → σ (hC + 2 + 13 * ex + 6 + ix) jx = A (194 + 813 * ex + 8 * jx + ix) := by
  have h3 := (h.2.2.2.2.2.2 ex he).2.2.2.2 jx h1 h2
  rw [show 177 + 813 * ex + 13 + 8 * jx = 190 + 813 * ex + 8 * jx by omega, show 177 + 813 * ex + 14 + 8 * jx = 191 + 813 * ex + 8 * jx by omega, show 177 + 813 * ex + 15 + 8 * jx = 192 + 813 * ex + 8 * jx by omega, show 177 + 813 * ex + 16 + 8 * jx = 193 + 813 * ex + 8 * jx by omega] at h3
  refine ⟨h3.1, h3.2.1, h3.2.2.1, h3.2.2.2.1, fun ix hi => ?_⟩
  rw [show 194 + 813 * ex + 8 * jx + ix = 177 + 813 * ex + 17 + 8 * jx + ix by omega]
  exact h3.2.2.2.2 ix hi
theorem oHR_e {σ : oM} {hC ex : Nat} {A : Nat → Int} (h : oHR σ hC A) (he : ex < nEd A) : σ (hC + 2 + 13 * ex) 0 = A (177 + 813 * ex) ∧ σ (hC + 2 + 13 * ex) 1 = A (179 + 813 * ex) ∧ σ (hC + 2 + 13 * ex) 2 = ((nBr A ex : Nat) : Int) := by
  have h3 := h.2.2.2.2.2.2 ex he
  exact ⟨h3.1, by rw [show 179 + 813 * ex = 177 + 813 * ex + 2 by omega]; exact h3.2.1, h3.2.2.1⟩
theorem fStock_y {A : Nat → Int} {eN iN : Nat} {w : Int} (h : isEdF A (eN : Int)) (hi : iN < 6) : fStock A (eN : Int) (iN : Int) w = if w = 0 then A (180 + 813 * eN + 3 * iN) else if w = 1 then A (180 + 813 * eN + 3 * iN) - A (181 + 813 * eN + 3 * iN) - A (182 + 813 * eN + 3 * iN) else if w = 2 then A (181 + 813 * eN + 3 * iN) else if w = 3 then A (182 + 813 * eN + 3 * iN) else -1 := by
  unfold fStock
  rw [if_pos ⟨h, by omega, by omega⟩, Int.toNat_natCast, Int.toNat_natCast]
theorem fBar_y {A : Nat → Int} {eN bN : Nat} {w : Int} (h : isBrF A (eN : Int) (bN : Int)) : fBar A (eN : Int) (bN : Int) w = if w = 0 then A (190 + 813 * eN + 8 * bN) else if w = 1 then A (191 + 813 * eN + 8 * bN) else if w = 2 then A (192 + 813 * eN + 8 * bN) else if w = 3 then (if A (193 + 813 * eN + 8 * bN) = 0 then -7 else A (193 + 813 * eN + 8 * bN)) else if w = 4 then cTempo (fun j => A (193 + 813 * eN + 8 * j)) bN else -1 := by
  unfold fBar
  rw [if_pos h, Int.toNat_natCast, Int.toNat_natCast]
theorem fBowing_y {A : Nat → Int} {eN bN iN : Nat} (h : isBrF A (eN : Int) (bN : Int)) (hi : iN < 4) : fBowing A (eN : Int) (iN : Int) (bN : Int) = A (194 + 813 * eN + 8 * bN + iN) := by
  unfold fBowing
  rw [if_pos ⟨h, by omega, by omega⟩, Int.toNat_natCast, Int.toNat_natCast, Int.toNat_natCast]
