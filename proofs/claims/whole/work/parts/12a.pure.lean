/-! the holdings as the flat row A: 0 editions, 1 loans, 2 day, 3+w origins, 7+w versions, 11+i players, 17+8l+k loans, 177+813e+k editions (0 work, 1 bars, 2 model, 3+3i+k copies), 190+813e+8b+k bars -/
def nEd (A : Nat → Int) : Nat := (A 0).toNat
def nLn (A : Nat → Int) : Nat := (A 1).toNat
def nBr (A : Nat → Int) (e : Nat) : Nat := (A (178 + 813 * e)).toNat
/-- an edition's cells say what A says from q on -/
def oER (σ : oM) (eC : Nat) (A : Nat → Int) (qx Bn : Nat) : Prop :=
  σ eC 0 = A qx ∧ σ eC 1 = A (qx + 2) ∧ σ eC 2 = (Bn : Int) ∧
  (∀ ix, ix < 6 → σ (eC + 10) ix = A (qx + 3 + 3 * ix) - A (qx + 4 + 3 * ix) - A (qx + 5 + 3 * ix) ∧ σ (eC + 11) ix = A (qx + 4 + 3 * ix) ∧ σ (eC + 12) ix = A (qx + 5 + 3 * ix)) ∧
  (∀ jx, 1 ≤ jx → jx ≤ Bn → σ (eC + 1) jx = A (qx + 13 + 8 * jx) ∧ σ (eC + 2) jx = A (qx + 14 + 8 * jx) ∧ σ (eC + 3) jx = A (qx + 15 + 8 * jx) ∧ σ (eC + 4) jx = A (qx + 16 + 8 * jx) ∧ ∀ ix, ix < 4 → σ (eC + 6 + ix) jx = A (qx + 17 + 8 * jx + ix))
/-- the holdings' cells say what A says -/
def oHR (σ : oM) (hC : Nat) (A : Nat → Int) : Prop :=
  σ hC 0 = ((nEd A : Nat) : Int) ∧ σ hC 5 = ((nLn A : Nat) : Int) ∧ σ hC 7 = A 2 ∧
  (∀ wx, wx < 4 → σ (hC + 80) wx = A (3 + wx) ∧ σ (hC + 81) wx = A (7 + wx)) ∧ (∀ ix, ix < 6 → σ (hC + 82) ix = A (11 + ix)) ∧
  (∀ lx, lx < nLn A → σ (hC + 84 + lx) 0 = A (17 + 8 * lx) ∧ σ (hC + 84 + lx) 1 = A (18 + 8 * lx) ∧ σ (hC + 84 + lx) 2 = A (19 + 8 * lx) ∧ σ (hC + 84 + lx) 3 = A (20 + 8 * lx) ∧ σ (hC + 84 + lx) 4 = A (21 + 8 * lx) ∧ σ (hC + 84 + lx) 5 = A (24 + 8 * lx) ∧ σ (hC + 84 + lx) 6 = A (22 + 8 * lx) ∧ σ (hC + 84 + lx) 7 = A (23 + 8 * lx)) ∧
  (∀ ex, ex < nEd A → oER σ (hC + 2 + 13 * ex) A (177 + 813 * ex) (nBr A ex))
/-- what an edition's numbers keep to -/
def oIE (Bd : Int) (A : Nat → Int) (ex : Nat) : Prop :=
  (0 ≤ A (177 + 813 * ex) ∧ A (177 + 813 * ex) ≤ 3) ∧ (1 ≤ A (178 + 813 * ex) ∧ A (178 + 813 * ex) ≤ 99) ∧ (-7 ≤ A (179 + 813 * ex) ∧ A (179 + 813 * ex) ≤ 5) ∧
  (∀ ix, ix < 6 → (0 ≤ A (180 + 813 * ex + 3 * ix) ∧ A (180 + 813 * ex + 3 * ix) ≤ 30) ∧ (-Bd ≤ A (181 + 813 * ex + 3 * ix) ∧ A (181 + 813 * ex + 3 * ix) ≤ Bd) ∧ (-Bd ≤ A (182 + 813 * ex + 3 * ix) ∧ A (182 + 813 * ex + 3 * ix) ≤ Bd)) ∧
  (∀ jx, 1 ≤ jx → jx ≤ nBr A ex → (1 ≤ A (190 + 813 * ex + 8 * jx) ∧ A (190 + 813 * ex + 8 * jx) ≤ Bd) ∧ (0 ≤ A (191 + 813 * ex + 8 * jx) ∧ A (191 + 813 * ex + 8 * jx) ≤ Bd) ∧ (1 ≤ A (192 + 813 * ex + 8 * jx) ∧ A (192 + 813 * ex + 8 * jx) ≤ 9) ∧ (A (193 + 813 * ex + 8 * jx) = 0 ∨ (200 ≤ A (193 + 813 * ex + 8 * jx) ∧ A (193 + 813 * ex + 8 * jx) ≤ 2500)) ∧ ∀ ix, ix < 4 → 0 ≤ A (194 + 813 * ex + 8 * jx + ix) ∧ A (194 + 813 * ex + 8 * jx + ix) ≤ 4)
/-- what the holdings' numbers keep to; Bd grows from call to call -/
def oI (Bd : Int) (A : Nat → Int) : Prop :=
  (0 ≤ Bd ∧ Bd ≤ 100000000) ∧ (0 ≤ A 0 ∧ A 0 ≤ 6) ∧ (0 ≤ A 1 ∧ A 1 ≤ 20) ∧ (0 ≤ A 2 ∧ A 2 ≤ 9999) ∧
  (∀ wx, wx < 4 → (0 ≤ A (3 + wx) ∧ A (3 + wx) ≤ Bd) ∧ (0 ≤ A (7 + wx) ∧ A (7 + wx) ≤ Bd)) ∧ (∀ ix, ix < 6 → 0 ≤ A (11 + ix) ∧ A (11 + ix) ≤ 20) ∧
  (∀ lx, lx < nLn A → (0 ≤ A (17 + 8 * lx) ∧ A (17 + 8 * lx) ≤ 5) ∧ (0 ≤ A (18 + 8 * lx) ∧ A (18 + 8 * lx) < A 0) ∧ (0 ≤ A (19 + 8 * lx) ∧ A (19 + 8 * lx) ≤ 5) ∧ (1 ≤ A (20 + 8 * lx) ∧ A (20 + 8 * lx) ≤ 30) ∧ (0 ≤ A (21 + 8 * lx) ∧ A (21 + 8 * lx) ≤ 30) ∧ (0 ≤ A (22 + 8 * lx) ∧ A (22 + 8 * lx) ≤ 20000) ∧ (0 ≤ A (23 + 8 * lx) ∧ A (23 + 8 * lx) ≤ Bd) ∧ (0 ≤ A (24 + 8 * lx) ∧ A (24 + 8 * lx) ≤ Bd)) ∧
  (∀ ex, ex < nEd A → oIE Bd A ex) ∧
  ∃ pos : Int → Int → Int, ∀ ex, ex < nEd A → ∀ jx, 1 ≤ jx → jx ≤ nBr A ex → A (190 + 813 * ex + 8 * jx) ≤ A (3 + (A (177 + 813 * ex)).toNat) ∧ ∀ kx, jx < kx → kx ≤ nBr A ex → pos (A (177 + 813 * ex)) (A (190 + 813 * ex + 8 * jx)) < pos (A (177 + 813 * ex)) (A (190 + 813 * ex + 8 * kx))
theorem oI_n {Bd : Int} {A : Nat → Int} (h : oI Bd A) : ((nEd A : Nat) : Int) = A 0 ∧ ((nLn A : Nat) : Int) = A 1 ∧ nEd A ≤ 6 ∧ nLn A ≤ 20 := by
  obtain ⟨-, h1, h2, -⟩ := h
  unfold nEd nLn
  omega
theorem oI_b {Bd : Int} {A : Nat → Int} {ex : Nat} (h : oI Bd A) (he : ex < nEd A) : oIE Bd A ex ∧ ((nBr A ex : Nat) : Int) = A (178 + 813 * ex) ∧ 1 ≤ nBr A ex ∧ nBr A ex ≤ 99 := by
  have h1 := h.2.2.2.2.2.2.2.1 ex he
  refine ⟨h1, ?_⟩
  have h2 := h1.2.1
  unfold nBr
  omega
/-- the class's cells: now at x + 1, the snapshot at x + 105, the history at x + 209, the comparison at x + 1147, the copier at x + 1152, the boxes from x + 1153 on, the input at x + 1163 -/
def oX (T : oT) (xC : Nat) : Prop :=
  T.2.1 xC = (8, 0) ∧ T.2.2 xC 0 = some (xC + 1) ∧ T.2.2 xC 1 = some (xC + 105) ∧ T.2.2 xC 2 = some (xC + 209) ∧ T.2.2 xC 3 = some (xC + 1147) ∧ T.2.2 xC 4 = some (xC + 1152) ∧ T.2.2 xC 5 = some (xC + 1153) ∧ T.2.2 xC 6 = some (xC + 1163) ∧
  oHd T (xC + 1) ∧ oHd T (xC + 105) ∧ oHy T (xC + 209) ∧ oCm T (xC + 1147) ∧ T.2.1 (xC + 1152) = (0, 0) ∧ T.2.1 (xC + 1153) = (12, 3) ∧ (∀ ix, ix < 3 → T.2.2 (xC + 1153) ix = some (xC + 1154 + 3 * ix) ∧ oBx T (xC + 1154 + 3 * ix)) ∧ T.2.1 (xC + 1163) = (2, 0) ∧ xC + 1164 ≤ T.1
/-- the calls' questions, over A -/
abbrev isEdF (A : Nat → Int) (z : Int) : Prop := 0 ≤ z ∧ z ≤ A 0 - 1
abbrev isBrF (A : Nat → Int) (z v : Int) : Prop := isEdF A z ∧ 1 ≤ v ∧ v ≤ A (178 + 813 * z.toNat)
abbrev isLnF (A : Nat → Int) (z : Int) : Prop := 0 ≤ z ∧ z ≤ A 1 - 1
theorem isEd_n {Bd : Int} {A : Nat → Int} {z : Int} (h : oI Bd A) (hz : isEdF A z) : ∃ eN : Nat, z = (eN : Int) ∧ eN < nEd A ∧ eN < 6 := by
  obtain ⟨h1, h2⟩ := hz
  have hn := oI_n h
  exact ⟨z.toNat, by omega, by omega, by omega⟩
theorem isBr_n {Bd : Int} {A : Nat → Int} {z v : Int} (h : oI Bd A) (hz : isBrF A z v) : ∃ eN bN : Nat, z = (eN : Int) ∧ v = (bN : Int) ∧ eN < nEd A ∧ eN < 6 ∧ 1 ≤ bN ∧ bN ≤ nBr A eN ∧ nBr A eN ≤ 99 := by
  obtain ⟨h0, h1, h2⟩ := hz
  obtain ⟨eN, rfl, h3, h4⟩ := isEd_n h h0
  obtain ⟨-, h5, h6, h7⟩ := oI_b h h3
  rw [Int.toNat_natCast] at h2
  exact ⟨eN, v.toNat, rfl, by omega, h3, h4, by omega, by omega, h7⟩
