/-! more answers over A -/
def fNeeds (A : Nat → Int) (z : Int) : Int := if 0 ≤ z ∧ z ≤ 5 then deskF (fun j => A (11 + j)) z.toNat else -1
/-- the durations of an edition's bars -/
def dEd (A : Nat → Int) (ex : Nat) : Nat → UInt32 := edD (fun j => A (192 + 813 * ex + 8 * j)) (fun j => A (193 + 813 * ex + 8 * j))
def fSeconds (A : Nat → Int) (z v w : Int) : Int := if isBrF A z v ∧ isBrF A z w then (if w < v then -2 else ((durF (dEd A z.toNat) v.toNat (w.toNat + 1 - v.toNat)).toNat : Int)) else -1
def fLength (A : Nat → Int) (z : Int) : Int := if isEdF A z then (FP.f2i (durF (dEd A z.toNat) 1 (nBr A z.toNat))).toInt else -1
def fBarAt (A : Nat → Int) (z v : Int) : Int := if isEdF A z then (if v < 0 then -2 else if fbF (dEd A z.toNat) (FP.i2f (Int32.ofInt v)) (nBr A z.toNat) 1 = 0 then -7 else ((fbF (dEd A z.toNat) (FP.i2f (Int32.ofInt v)) (nBr A z.toNat) 1 : Nat) : Int)) else -1
def beatF (A : Nat → Int) (ex : Nat) : Int := sumF (fun ix => A (192 + 813 * ex + 8 * (ix + 1))) (nBr A ex)
def paceU (A : Nat → Int) (ex : Nat) : UInt32 := FP.fdiv (FP.fmul (FP.i2f (Int32.ofInt (beatF A ex))) 1114636288) (durF (dEd A ex) 1 (nBr A ex))
def fPace (A : Nat → Int) (z : Int) : Int := if isEdF A z then ((paceU A z.toNat).toNat : Int) else -1
def fCarry (A : Nat → Int) (z v w : Int) : Int :=
  if isBrF A z v ∧ isEdF A w then (if A (177 + 813 * z.toNat) = A (177 + 813 * w.toNat) then
    (if fstAt (fun j => A (190 + 813 * w.toNat + 8 * j)) (A (190 + 813 * z.toNat + 8 * v.toNat)) (nBr A w.toNat) 1 = 0 then -7 else ((fstAt (fun j => A (190 + 813 * w.toNat + 8 * j)) (A (190 + 813 * z.toNat + 8 * v.toNat)) (nBr A w.toNat) 1 : Nat) : Int)) else -2) else -1
def fOfEd (A : Nat → Int) (z w : Int) : Int :=
  if isEdF A z then (if w = 0 then A (177 + 813 * z.toNat) else if w = 1 then A (178 + 813 * z.toNat) else if w = 2 then A (179 + 813 * z.toNat)
    else if w = 3 then sumF (fun jx => if A (179 + 813 * jx) = z then 1 else 0) (nEd A) else if w = 4 then sumF (fun ix => A (180 + 813 * z.toNat + 3 * ix)) 6
    else if w = 5 then sumF (fun ix => sumF (fun jx => nz (A (194 + 813 * z.toNat + 8 * (jx + 1) + ix))) (nBr A z.toNat)) 4
    else if w = 6 then sumF (fun ix => nz (A (193 + 813 * z.toNat + 8 * (ix + 1)))) (nBr A z.toNat) else -1) else -1
def ovA (A : Nat → Int) (lx : Nat) : Bool := ovF (A (21 + 8 * lx)) (A (22 + 8 * lx)) (A 2)
def fLoan (A : Nat → Int) (z w : Int) : Int :=
  if isLnF A z then (if w = 0 then A (17 + 8 * z.toNat) else if w = 1 then A (18 + 8 * z.toNat) else if w = 2 then A (19 + 8 * z.toNat) else if w = 3 then A (20 + 8 * z.toNat)
    else if w = 4 then A (21 + 8 * z.toNat) else if w = 5 then A (22 + 8 * z.toNat) else if w = 6 then A (23 + 8 * z.toNat) else if w = 7 then (if 0 < A (21 + 8 * z.toNat) ∧ A (22 + 8 * z.toNat) < A 2 then 1 else 0) else -1) else -1
def fOverdue (A : Nat → Int) (w : Int) : Int := if w < 0 then -1 else findF (fun ix => ovA A ix && decide (ahF (fun jx => A (21 + 8 * jx)) (fun jx => A (22 + 8 * jx)) (A 2) (nLn A) ix = w)) (nLn A) 0
def owesF (A : Nat → Int) (z w : Int) : Int := sumF (fun jx => if A (17 + 8 * jx) = z then (if w = 0 then A (21 + 8 * jx) else if w = 1 then A (24 + 8 * jx) else if w = 2 then A (23 + 8 * jx) else if 0 < A (21 + 8 * jx) ∧ A (22 + 8 * jx) < A 2 then 1 else 0) else 0) (nLn A)
def fBorrower (A : Nat → Int) (z w : Int) : Int := if (0 ≤ z ∧ z ≤ 5) ∧ (0 ≤ w ∧ w ≤ 3) then owesF A z w else -1
theorem deskF_congr {f g : Nat → Int} {ix : Nat} (h : f ix = g ix) : deskF f ix = deskF g ix := by
  unfold deskF
  rw [h]
theorem edD_congr {b1 t1 b2 t2 : Nat → Int} {j : Nat} (hb : b1 j = b2 j) (ht : ∀ i, 1 ≤ i → i ≤ j → t1 i = t2 i) : edD b1 t1 j = edD b2 t2 j := by
  unfold edD
  rw [hb, cTempo_congr ht]
theorem fbF_congr {dx gx : Nat → UInt32} {ux : UInt32} {Bn : Nat} (h : ∀ j, 1 ≤ j → j ≤ Bn → dx j = gx j) : ∀ n j, j + n ≤ Bn + 1 → fbF dx ux n j = fbF gx ux n j
  | 0, _, _ => rfl
  | n + 1, j, hj => by
    unfold fbF
    rw [durF_congr (d := dx) (g := gx) (s := 1) (n := j) (fun i h1 h2 => h i h1 (by omega)), fbF_congr h n (j + 1) (by omega)]
theorem fbF_in {dx : Nat → UInt32} {ux : UInt32} : ∀ n j, fbF dx ux n j = 0 ∨ (j ≤ fbF dx ux n j ∧ fbF dx ux n j < j + n)
  | 0, _ => Or.inl rfl
  | n + 1, j => by
    unfold fbF
    split
    · exact Or.inr ⟨Nat.le_refl _, by omega⟩
    · rcases fbF_in (dx := dx) (ux := ux) n (j + 1) with h | h
      · exact Or.inl h
      · exact Or.inr ⟨by omega, by omega⟩
theorem oIE_bt {Bd : Int} {A : Nat → Int} {ex : Nat} (h : oIE Bd A ex) : (∀ i, 1 ≤ i → i ≤ nBr A ex → 1 ≤ A (192 + 813 * ex + 8 * i) ∧ A (192 + 813 * ex + 8 * i) ≤ 9) ∧ (∀ i, 1 ≤ i → i ≤ nBr A ex → A (193 + 813 * ex + 8 * i) = 0 ∨ (200 ≤ A (193 + 813 * ex + 8 * i) ∧ A (193 + 813 * ex + 8 * i) ≤ 2500)) :=
  ⟨fun i i1 i2 => (h.2.2.2.2 i i1 i2).2.2.1, fun i i1 i2 => (h.2.2.2.2 i i1 i2).2.2.2.1⟩
/-- an edition's durations are positive normal numbers -/
theorem dur_pn {Bd : Int} {A : Nat → Int} {ex sx n : Nat} (h : oIE Bd A ex) (h9 : nBr A ex ≤ 99) (h1 : 1 ≤ sx) (h2 : sx + n ≤ nBr A ex) : ∃ E, oPN (durF (dEd A ex) sx (n + 1)) E ∧ 124 ≤ E ∧ E ≤ 134 + n := by
  obtain ⟨a1, a2⟩ := oIE_bt h
  exact durF_pn n (by omega) (fun j j1 j2 => edD_pn (Bn := nBr A ex) a1 a2 (by omega) (by omega))
theorem pace_pn {Bd : Int} {A : Nat → Int} {ex : Nat} (h : oIE Bd A ex) (h1 : 1 ≤ nBr A ex) (h9 : nBr A ex ≤ 99) : vf_n32 (FP.fmul (FP.i2f (Int32.ofInt (beatF A ex))) 1114636288) ∧ ∃ E, oPN (paceU A ex) E := by
  obtain ⟨a1, a2⟩ := oIE_bt h
  have hs : ((nBr A ex : Nat) : Int) * 1 ≤ beatF A ex ∧ beatF A ex ≤ ((nBr A ex : Nat) : Int) * 9 := sumF_in (fun i hi => a1 (i + 1) (by omega) (by omega))
  obtain ⟨nb, hnb⟩ : ∃ nb : Nat, beatF A ex = (nb : Int) := ⟨(beatF A ex).toNat, by omega⟩
  have h2 := i2f_beats ⟨nb, by omega⟩ (show 1 ≤ nb by omega)
  simp only at h2
  rw [← hnb] at h2
  have p1 : oPN (FP.fmul (FP.i2f (Int32.ofInt (beatF A ex))) 1114636288) _ := ⟨by omega, by omega, rfl⟩
  obtain ⟨E, p2, p3, p4⟩ := dur_pn (sx := 1) (n := nBr A ex - 1) h h9 (by omega) (by omega)
  rw [show nBr A ex - 1 + 1 = nBr A ex by omega] at p2
  obtain ⟨E2, p5, -, -⟩ := fdiv_pn p1 p2 (by omega) (by omega)
  exact ⟨oPN_n32 p1, E2, p5⟩
