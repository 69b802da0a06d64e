theorem ovF_t {ou du day : Int} : ovF ou du day = true ↔ (0 < ou ∧ du < day) := by simp [ovF]
theorem ovF_f {ou du day : Int} : ovF ou du day = false ↔ ¬ (0 < ou ∧ du < day) := by
  unfold ovF
  rw [decide_eq_false_iff_not]
def cntP (P : Nat → Int) : Nat → Nat
  | 0 => 0
  | n + 1 => cntP P n + (if 0 < P n then 1 else 0)
theorem cntP_mono {P : Nat → Int} : ∀ {jx n : Nat}, jx ≤ n → cntP P jx ≤ cntP P n
  | jx, 0, h => by rw [show jx = 0 by omega]; exact Nat.le_refl _
  | jx, n + 1, h => by
    by_cases hj : jx = n + 1
    · rw [hj]; exact Nat.le_refl _
    · have := cntP_mono (P := P) (jx := jx) (n := n) (by omega)
      show cntP P jx ≤ cntP P n + (if 0 < P n then 1 else 0)
      omega
theorem cntP_le {P : Nat → Int} : ∀ {n : Nat}, cntP P n ≤ n
  | 0 => Nat.le_refl _
  | n + 1 => by
    have := cntP_le (P := P) (n := n)
    show cntP P n + (if 0 < P n then 1 else 0) ≤ n + 1
    split <;> omega
theorem o_lend_ne {σ : oM} {hC eC Mn ix x : Nat} {bo ed ins cx dx : Int} (h1 : x ≠ hC + 84 + Mn) (h2 : x ≠ hC) (h3 : x ≠ eC + 10) (h4 : x ≠ eC + 11) : o_lend σ hC eC Mn ix bo ed ins cx dx x = σ x := by
  unfold o_lend
  rw [o_up_ne h4, o_up_ne h3, o_up_ne h2, o_lnc_ne h1]
theorem o_lend_h {σ : oM} {hC eC Mn ix kx : Nat} {bo ed ins cx dx : Int} (h3 : hC < eC) : o_lend σ hC eC Mn ix bo ed ins cx dx hC kx = if kx = 5 then (Mn : Int) + 1 else σ hC kx := by
  unfold o_lend
  rw [o_up_ne (by omega), o_up_ne (by omega)]
  by_cases hk : kx = 5
  · rw [hk, o_up_at, if_pos rfl]
  · rw [o_up_nj (Or.inr hk), o_lnc_ne (by omega), if_neg hk]
/-- what loans for all leave: the players, the day; the number of loans -/
theorem o_lendN_f {σ : oM} {hC eN Mn : Nat} {bo ed dx : Int} (heN : eN < 6) (hMn : σ hC 5 = (Mn : Int)) : ∀ n, (o_lendN σ hC (hC + 2 + 13 * eN) Mn bo ed dx n).1 (hC + 82) = σ (hC + 82) ∧ (o_lendN σ hC (hC + 2 + 13 * eN) Mn bo ed dx n).1 hC 5 = (((o_lendN σ hC (hC + 2 + 13 * eN) Mn bo ed dx n).2 : Nat) : Int) ∧ (o_lendN σ hC (hC + 2 + 13 * eN) Mn bo ed dx n).2 = Mn + cntP (σ (hC + 82)) n
  | 0 => ⟨rfl, hMn, rfl⟩
  | n + 1 => by
    obtain ⟨h1, h2, h3⟩ := o_lendN_f (σ := σ) (bo := bo) (ed := ed) (dx := dx) heN hMn n
    have ec : cntP (σ (hC + 82)) (n + 1) = cntP (σ (hC + 82)) n + (if 0 < σ (hC + 82) n then 1 else 0) := rfl
    unfold o_lendN
    by_cases hp : 0 < (o_lendN σ hC (hC + 2 + 13 * eN) Mn bo ed dx n).1 (hC + 82) n
    · rw [if_pos hp]
      have hp2 : 0 < σ (hC + 82) n := by rw [← h1]; exact hp
      refine ⟨?_, ?_, ?_⟩
      · show o_lend _ _ _ _ _ _ _ _ _ _ (hC + 82) = _
        rw [o_lend_ne (by omega) (by omega) (by omega) (by omega)]
        exact h1
      · show o_lend _ _ _ _ _ _ _ _ _ _ hC 5 = _
        rw [o_lend_h (by omega), if_pos rfl]
        omega
      · show (o_lendN σ hC (hC + 2 + 13 * eN) Mn bo ed dx n).2 + 1 = _
        rw [h3, ec, if_pos hp2]
        omega
    · rw [if_neg hp]
      have hp2 : ¬ 0 < σ (hC + 82) n := by rw [← h1]; exact hp
      exact ⟨h1, h2, by rw [h3, ec, if_neg hp2]; rfl⟩
theorem ahF_in {ou du : Nat → Int} {day : Int} {Mn ix : Nat} : 0 ≤ ahF ou du day Mn ix ∧ ahF ou du day Mn ix ≤ Mn := by
  have h := sumF_in (f := fun jx => if ovF (ou jx) (du jx) day = true ∧ (du jx < du ix ∨ (du jx = du ix ∧ jx < ix)) then 1 else 0) (lo := 0) (hi := 1) (n := Mn) (fun jx _ => by split <;> omega)
  unfold ahF
  omega
theorem ahF_r {ou du : Nat → Int} {day : Int} {Mn ix : Nat} (h : Mn ≤ 20) : o_r (ahF ou du day Mn ix) := by
  have := ahF_in (ou := ou) (du := du) (day := day) (Mn := Mn) (ix := ix)
  omega
