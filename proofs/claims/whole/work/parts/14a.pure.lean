/-! accounts and comparisons over A -/
def cpsF (A : Nat → Int) (w : Int) : Int := sumF (fun jx => sumF (fun ix => if w = 1 then A (180 + 813 * jx + 3 * ix) - A (181 + 813 * jx + 3 * ix) - A (182 + 813 * jx + 3 * ix) else if w = 2 then A (181 + 813 * jx + 3 * ix) else if w = 3 then A (182 + 813 * jx + 3 * ix) else A (180 + 813 * jx + 3 * ix)) 6) (nEd A)
def fCount (A : Nat → Int) (hn il w : Int) : Int :=
  if w = 0 then A 0 else if w = 1 then A 1 else if w = 2 then sumF (fun jx => if 0 < A (21 + 8 * jx) then 1 else 0) (nLn A) else if w = 3 then cpsF A 0 else if w = 4 then cpsF A 1 else if w = 5 then cpsF A 2 else if w = 6 then cpsF A 3
  else if w = 7 then sumF (fun jx => A (23 + 8 * jx)) (nLn A) else if w = 8 then A 2 else if w = 9 then hn else if w = 10 then il else -1
theorem trS_congr {o1 v1 o2 v2 p1 w1 p2 w2 : Nat → Int} {B2 : Nat} (h3 : ∀ j, 1 ≤ j → j ≤ B2 → o2 j = p2 j ∧ v2 j = w2 j) : ∀ n, (∀ j, 1 ≤ j → j ≤ n → o1 j = p1 j ∧ v1 j = w1 j) → trS o1 v1 o2 v2 B2 n = trS p1 w1 p2 w2 B2 n
  | 0, _ => rfl
  | n + 1, h => by
    have ih := trS_congr (o1 := o1) (v1 := v1) (p1 := p1) (w1 := w1) h3 n (fun j j1 j2 => h j j1 (by omega))
    have hb := (trS_in (o1 := p1) (v1 := w1) (o2 := p2) (v2 := w2) (B2 := B2) n).1
    obtain ⟨e1, e2⟩ := h (n + 1) (by omega) (by omega)
    unfold trS
    rw [ih]
    generalize trS p1 w1 p2 w2 B2 n = sx at hb
    have e3 : fstAt o2 (o1 (n + 1)) (B2 - sx.1) (sx.1 + 1) = fstAt p2 (p1 (n + 1)) (B2 - sx.1) (sx.1 + 1) := by
      rw [e1]
      exact fstAt_congr (fun i i1 i2 => (h3 i (by omega) (by omega)).1)
    rw [e3, e2]
    have hsp := fstAt_spec (f := p2) (v := p1 (n + 1)) (n := B2 - sx.1) (j := sx.1 + 1) (by omega)
    generalize fstAt p2 (p1 (n + 1)) (B2 - sx.1) (sx.1 + 1) = th at hsp
    rcases hsp with ⟨h0, -⟩ | ⟨g1, g2, -, -⟩
    · rw [if_pos h0, if_pos h0]
    · rw [(h3 th (by omega) (by omega)).2]
/-- the comparison of editions e and k behind n bars of e -/
def trA (A : Nat → Int) (ex kx n : Nat) : Nat × Nat × Nat × List oRun := trS (fun j => A (190 + 813 * ex + 8 * j)) (fun j => A (191 + 813 * ex + 8 * j)) (fun j => A (190 + 813 * kx + 8 * j)) (fun j => A (191 + 813 * kx + 8 * j)) (nBr A kx) n
def runsA (A : Nat → Int) (ex kx : Nat) : List oRun := trL (fun j => A (190 + 813 * ex + 8 * j)) (fun j => A (191 + 813 * ex + 8 * j)) (fun j => A (190 + 813 * kx + 8 * j)) (fun j => A (191 + 813 * kx + 8 * j)) (nBr A ex) (nBr A kx)
theorem trA_of {σ : oM} {hC ex kx n : Nat} {A : Nat → Int} (h : oHR σ hC A) (he : ex < nEd A) (hk : kx < nEd A) (hn : n ≤ nBr A ex) : trM σ (hC + 2 + 13 * ex) (hC + 2 + 13 * kx) (nBr A kx) n = trA A ex kx n :=
  trS_congr (fun j j1 j2 => ⟨(oHR_b h hk j1 j2).1, (oHR_b h hk j1 j2).2.1⟩) n (fun j j1 j2 => ⟨(oHR_b h he j1 (by omega)).1, (oHR_b h he j1 (by omega)).2.1⟩)
theorem runsA_of {σ : oM} {hC ex kx : Nat} {A : Nat → Int} (h : oHR σ hC A) (he : ex < nEd A) (hk : kx < nEd A) : trL (σ (hC + 2 + 13 * ex + 1)) (σ (hC + 2 + 13 * ex + 2)) (σ (hC + 2 + 13 * kx + 1)) (σ (hC + 2 + 13 * kx + 2)) (nBr A ex) (nBr A kx) = runsA A ex kx := by
  have h1 := trA_of h he hk (Nat.le_refl _)
  unfold trM trA at h1
  unfold trL runsA trL
  rw [h1]
def fCompare (A : Nat → Int) (z v w : Int) : Int :=
  if isEdF A z ∧ isEdF A v ∧ 0 ≤ w ∧ w ≤ 4 then (if A (177 + 813 * z.toNat) = A (177 + 813 * v.toNat) then
    (if w = 0 then (((trA A z.toNat v.toNat (nBr A z.toNat)).2.1 : Nat) : Int) else if w = 1 then (((trA A z.toNat v.toNat (nBr A z.toNat)).2.2.1 : Nat) : Int)
     else if w = 2 then A (178 + 813 * z.toNat) - (((trA A z.toNat v.toNat (nBr A z.toNat)).2.1 : Nat) : Int) else if w = 3 then A (178 + 813 * v.toNat) - (((trA A z.toNat v.toNat (nBr A z.toNat)).2.1 : Nat) : Int)
     else (((runsA A z.toNat v.toNat).length : Nat) : Int)) else -2) else -1
def runK (r : oRun) (w : Int) : Int := if w = 0 then r.1 else if w = 1 then r.2.1 else if w = 2 then r.2.2.1 else r.2.2.2
def fDiff (A : Nat → Int) (z v ix w : Int) : Int :=
  if isEdF A z ∧ isEdF A v ∧ 0 ≤ ix ∧ 0 ≤ w ∧ w ≤ 3 then (if A (177 + 813 * z.toNat) = A (177 + 813 * v.toNat) then
    (match (runsA A z.toNat v.toNat)[ix.toNat]? with
     | some r => runK r w
     | none => -7) else -2) else -1
theorem runsA_len {Bd : Int} {A : Nat → Int} {ex kx : Nat} (h : oI Bd A) (he : ex < nEd A) (hk : kx < nEd A) : (runsA A ex kx).length ≤ 198 := by
  have b1 := oI_b h he
  have b2 := oI_b h hk
  have ht := trS_in (o1 := fun j => A (190 + 813 * ex + 8 * j)) (v1 := fun j => A (191 + 813 * ex + 8 * j)) (o2 := fun j => A (190 + 813 * kx + 8 * j)) (v2 := fun j => A (191 + 813 * kx + 8 * j)) (B2 := nBr A kx) (nBr A ex)
  unfold runsA trL
  generalize trS (fun j => A (190 + 813 * ex + 8 * j)) (fun j => A (191 + 813 * ex + 8 * j)) (fun j => A (190 + 813 * kx + 8 * j)) (fun j => A (191 + 813 * kx + 8 * j)) (nBr A kx) (nBr A ex) = sx at ht
  have hg := gapL_len sx.2.2.2 ((nBr A ex : Nat) : Int) ((sx.1 : Int) + 1) ((nBr A kx : Nat) : Int)
  by_cases hc : ((nBr A kx : Nat) : Int) < (sx.1 : Int) + 1
  · have := hg.2 hc
    omega
  · omega
