/-! pure words of holdings -/
/-- copies that an instrument needs, of players P -/
def deskF (P : Nat → Int) (ix : Nat) : Int := if ix < 4 then (P ix + 1) / 2 else P ix
/-- the first place from jx on, of n, for which P; -7 if none -/
def findF (P : Nat → Bool) : Nat → Nat → Int
  | 0, _ => -7
  | n + 1, jx => if P jx = true then (jx : Int) else findF P n (jx + 1)
theorem findF_congr {P Q : Nat → Bool} : ∀ {n jx : Nat}, (∀ ix, jx ≤ ix → ix < jx + n → P ix = Q ix) → findF P n jx = findF Q n jx
  | 0, _, _ => rfl
  | n + 1, jx, h => by
    unfold findF
    rw [h jx (Nat.le_refl _) (by omega), findF_congr (n := n) (jx := jx + 1) (fun ix h1 h2 => h ix (by omega) (by omega))]
/-- an edition at e like that at a -/
def edLike (σ2 : oM) (eC : Nat) (σ : oM) (aC : Nat) : Prop := σ2 eC 0 = σ aC 0 ∧ σ2 eC 1 = σ aC 1 ∧ σ2 eC 2 = σ aC 2 ∧ (∀ jx : Nat, 1 ≤ jx → (jx : Int) ≤ σ aC 2 → ∀ rx, (1 ≤ rx ∧ rx ≤ 4) ∨ (6 ≤ rx ∧ rx ≤ 9) → σ2 (eC + rx) jx = σ (aC + rx) jx) ∧ (∀ ix, ix < 6 → σ2 (eC + 10) ix = σ (aC + 10) ix ∧ σ2 (eC + 11) ix = σ (aC + 11) ix ∧ σ2 (eC + 12) ix = σ (aC + 12) ix)
theorem o_like_ne {σ : oM} {eC aC Bn x : Nat} (h : x < eC ∨ eC + 13 ≤ x) : o_like σ eC aC Bn x = σ x := by
  unfold o_like
  rw [o_cp_ne (by omega), o_cp_ne (by omega), o_cp_ne (by omega), o_bl_ne (by rw [rowK_f]; omega), o_up_ne (by omega), o_up_ne (by omega), o_up_ne (by omega)]
theorem o_like_ed {σ : oM} {eC aC Bn : Nat} (hdis : eC + 13 ≤ aC ∨ aC + 13 ≤ eC) (hBn : σ aC 2 = (Bn : Int)) : edLike (o_like σ eC aC Bn) eC σ aC := by
  have h3 : ∀ x jx, (x < eC ∨ eC < x) → (o_up (o_up (o_up σ eC 0 (σ aC 0)) eC 1 (σ aC 1)) eC 2 (σ aC 2)) x jx = σ x jx := fun x jx h => by rw [o_up_ne (by omega), o_up_ne (by omega), o_up_ne (by omega)]
  have hb : ∀ x jx, rowK eC 4 4 x = false → (o_bl (o_up (o_up (o_up σ eC 0 (σ aC 0)) eC 1 (σ aC 1)) eC 2 (σ aC 2)) (rowK eC 4 4) eC aC 1 Bn) x jx = (o_up (o_up (o_up σ eC 0 (σ aC 0)) eC 1 (σ aC 1)) eC 2 (σ aC 2)) x jx := fun x jx h => by rw [o_bl_ne h]
  refine ⟨?_, ?_, ?_, fun jx h1 h2 rx hr => ?_, fun ix hi => ⟨?_, ?_, ?_⟩⟩
  · unfold o_like
    rw [o_cp_ne (by omega), o_cp_ne (by omega), o_cp_ne (by omega), hb _ _ (by rw [rowK_f]; omega), o_up_nj (Or.inr (by decide)), o_up_nj (Or.inr (by decide)), o_up_at]
  · unfold o_like
    rw [o_cp_ne (by omega), o_cp_ne (by omega), o_cp_ne (by omega), hb _ _ (by rw [rowK_f]; omega), o_up_nj (Or.inr (by decide)), o_up_at]
  · unfold o_like
    rw [o_cp_ne (by omega), o_cp_ne (by omega), o_cp_ne (by omega), hb _ _ (by rw [rowK_f]; omega), o_up_at]
  · unfold o_like
    rw [o_cp_ne (by omega), o_cp_ne (by omega), o_cp_ne (by omega), o_bl_in (by rw [rowK_t]; omega) h1 (by omega), h3 _ _ (by omega), show eC + rx - eC + aC = aC + rx by omega]
  · unfold o_like
    rw [o_cp_ne (by omega), o_cp_ne (by omega), o_cp_in (by omega) (by omega), hb _ _ (by rw [rowK_f]; omega), h3 _ _ (by omega), show 0 + (ix - 0) = ix by omega]
  · unfold o_like
    rw [o_cp_ne (by omega), o_cp_in (by omega) (by omega), o_cp_ne (by omega), hb _ _ (by rw [rowK_f]; omega), h3 _ _ (by omega), show 0 + (ix - 0) = ix by omega]
  · unfold o_like
    rw [o_cp_in (by omega) (by omega), o_cp_ne (by omega), o_cp_ne (by omega), hb _ _ (by rw [rowK_f]; omega), h3 _ _ (by omega), show 0 + (ix - 0) = ix by omega]
theorem edLike_fr {σ2 σ3 σ : oM} {eC aC : Nat} (h : edLike σ2 eC σ aC) (hf : ∀ x, eC ≤ x → x < eC + 13 → σ3 x = σ2 x) : edLike σ3 eC σ aC := by
  obtain ⟨h1, h2, h3, h4, h5⟩ := h
  refine ⟨by rw [hf _ (by omega) (by omega)]; exact h1, by rw [hf _ (by omega) (by omega)]; exact h2, by rw [hf _ (by omega) (by omega)]; exact h3, fun jx a1 a2 rx hr => by rw [hf _ (by omega) (by omega)]; exact h4 jx a1 a2 rx hr, fun ix hi => ?_⟩
  rw [hf _ (by omega) (by omega), hf _ (by omega) (by omega), hf _ (by omega) (by omega)]
  exact h5 ix hi
theorem edLike_src {σ2 σ3 σ : oM} {eC aC : Nat} (h : edLike σ2 eC σ3 aC) (hf : ∀ x, aC ≤ x → x < aC + 13 → σ3 x = σ x) : edLike σ2 eC σ aC := by
  obtain ⟨h1, h2, h3, h4, h5⟩ := h
  rw [hf aC (by omega) (by omega)] at h1 h2 h3 h4
  exact ⟨h1, h2, h3, fun jx a1 a2 rx hr => by rw [h4 jx a1 a2 rx hr, hf _ (by omega) (by omega)], fun ix hi => by
    have := h5 ix hi
    rw [hf _ (by omega) (by omega), hf _ (by omega) (by omega), hf _ (by omega) (by omega)] at this
    exact this⟩
/-- holdings at t like those at sC, of Nn editions and Mn loans -/
def hdLike (σ2 : oM) (tC : Nat) (σ : oM) (sC Nn Mn : Nat) : Prop := σ2 tC 0 = σ sC 0 ∧ σ2 tC 5 = σ sC 5 ∧ σ2 tC 7 = σ sC 7 ∧ (∀ ix, ix < 4 → σ2 (tC + 80) ix = σ (sC + 80) ix ∧ σ2 (tC + 81) ix = σ (sC + 81) ix) ∧ (∀ ix, ix < 6 → σ2 (tC + 82) ix = σ (sC + 82) ix) ∧ (∀ jx, jx < Nn → edLike σ2 (tC + 2 + 13 * jx) σ (sC + 2 + 13 * jx)) ∧ (∀ jx, jx < Mn → ∀ kx, kx < 8 → σ2 (tC + 84 + jx) kx = σ (sC + 84 + jx) kx) ∧ (∀ x, x < tC ∨ tC + 104 ≤ x → σ2 x = σ x)
/-- a loan's eight fields -/
def o_lnc (σ : oM) (aC : Nat) (v0 v1 v2 v3 v4 v5 v6 v7 : Int) : oM := o_up (o_up (o_up (o_up (o_up (o_up (o_up (o_up σ aC 0 v0) aC 1 v1) aC 2 v2) aC 3 v3) aC 4 v4) aC 5 v5) aC 6 v6) aC 7 v7
theorem o_lnc_ne {σ : oM} {aC x : Nat} {v0 v1 v2 v3 v4 v5 v6 v7 : Int} (h : x ≠ aC) : o_lnc σ aC v0 v1 v2 v3 v4 v5 v6 v7 x = σ x := by
  unfold o_lnc
  rw [o_up_ne h, o_up_ne h, o_up_ne h, o_up_ne h, o_up_ne h, o_up_ne h, o_up_ne h, o_up_ne h]
theorem o_lnc_at {σ : oM} {aC kx : Nat} {v0 v1 v2 v3 v4 v5 v6 v7 : Int} : o_lnc σ aC v0 v1 v2 v3 v4 v5 v6 v7 aC kx = if kx = 7 then v7 else if kx = 6 then v6 else if kx = 5 then v5 else if kx = 4 then v4 else if kx = 3 then v3 else if kx = 2 then v2 else if kx = 1 then v1 else if kx = 0 then v0 else σ aC kx := by
  simp only [o_lnc, o_up, true_and]
/-- a loan made: number Mn, of an edition at eC -/
def o_lend (σ : oM) (hC eC Mn ix : Nat) (bo ed ins cx dx : Int) : oM := o_up (o_up (o_up (o_lnc σ (hC + 84 + Mn) bo ed ins cx cx 0 (σ hC 7 + dx) 0) hC 5 ((Mn : Int) + 1)) (eC + 10) ix (σ (eC + 10) ix - cx)) (eC + 11) ix (σ (eC + 11) ix + cx)
/-- loans made of all that is needed, of the first n instruments -/
def o_lendN (σ : oM) (hC eC Mn : Nat) (bo ed dx : Int) : Nat → oM × Nat
  | 0 => (σ, Mn)
  | n + 1 => if 0 < (o_lendN σ hC eC Mn bo ed dx n).1 (hC + 82) n then (o_lend (o_lendN σ hC eC Mn bo ed dx n).1 hC eC (o_lendN σ hC eC Mn bo ed dx n).2 n bo ed (n : Int) (deskF ((o_lendN σ hC eC Mn bo ed dx n).1 (hC + 82)) n) dx, (o_lendN σ hC eC Mn bo ed dx n).2 + 1) else o_lendN σ hC eC Mn bo ed dx n
/-- the fee for copies brought back -/
def feeF (day due good bad : Int) : Int := (good + bad) * (if 20 ≤ (if day - due ≤ 0 then 0 else day - due) then 20 else (if day - due ≤ 0 then 0 else day - due)) + bad * 50
/-- copies brought back -/
def o_brg (σ : oM) (aC eC ix : Nat) (good bad fee : Int) : oM := o_up (o_up (o_up (o_up (o_up (o_up σ aC 4 (σ aC 4 - (good + bad))) aC 5 (σ aC 5 + bad)) aC 7 (σ aC 7 + fee)) (eC + 11) ix (σ (eC + 11) ix - (good + bad))) (eC + 10) ix (σ (eC + 10) ix + good)) (eC + 12) ix (σ (eC + 12) ix + bad)
/-- overdue: out, due, day -/
def ovF (ou du day : Int) : Bool := decide (0 < ou ∧ du < day)
/-- how many loans of Mn are overdue ahead of loan ix -/
def ahF (ou du : Nat → Int) (day : Int) (Mn ix : Nat) : Int := sumF (fun jx => if ovF (ou jx) (du jx) day = true ∧ (du jx < du ix ∨ (du jx = du ix ∧ jx < ix)) then 1 else 0) Mn
/-- the history's shape: 9 rows -/
def oHy (T : oT) (yC : Nat) : Prop := T.2.1 yC = (5, 0) ∧ T.2.2 yC 0 = some (yC + 1) ∧ T.2.1 (yC + 1) = (14, 9) ∧ (∀ ix, ix < 9 → T.2.2 (yC + 1) ix = some (yC + 2 + 104 * ix) ∧ oHd T (yC + 2 + 104 * ix)) ∧ yC + 938 ≤ T.1
