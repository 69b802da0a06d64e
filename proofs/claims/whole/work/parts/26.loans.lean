/-- copies in, of what was bought -/
def inF (A : Nat → Int) (eN iN : Nat) : Int := A (180 + 813 * eN + 3 * iN) - A (181 + 813 * eN + 3 * iN) - A (182 + 813 * eN + 3 * iN)
/-- a loan made: number lN -/
def lendA (A : Nat → Int) (lN eN iN : Nat) (bo cx dx : Int) : Nat → Int := fun x =>
  if x = 1 then A 1 + 1 else if x = 17 + 8 * lN then bo else if x = 18 + 8 * lN then (eN : Int) else if x = 19 + 8 * lN then (iN : Int) else if x = 20 + 8 * lN then cx else if x = 21 + 8 * lN then cx else if x = 22 + 8 * lN then A 2 + dx else if x = 23 + 8 * lN then 0 else if x = 24 + 8 * lN then 0
  else if x = 181 + 813 * eN + 3 * iN then A x + cx else A x
theorem lendA_ne {A : Nat → Int} {lN eN iN x : Nat} {bo cx dx : Int} (h1 : x ≠ 1) (h2 : x < 17 + 8 * lN ∨ 25 + 8 * lN ≤ x) (h3 : x ≠ 181 + 813 * eN + 3 * iN) : lendA A lN eN iN bo cx dx x = A x := by
  unfold lendA
  rw [if_neg h1, if_neg (by omega), if_neg (by omega), if_neg (by omega), if_neg (by omega), if_neg (by omega), if_neg (by omega), if_neg (by omega), if_neg (by omega), if_neg h3]
theorem lendA_1 {A : Nat → Int} {lN eN iN : Nat} {bo cx dx : Int} : lendA A lN eN iN bo cx dx 1 = A 1 + 1 := if_pos rfl
theorem lendA_o {A : Nat → Int} {lN eN iN : Nat} {bo cx dx : Int} (hl : lN < 20) : lendA A lN eN iN bo cx dx (181 + 813 * eN + 3 * iN) = A (181 + 813 * eN + 3 * iN) + cx := by
  unfold lendA
  rw [if_neg (by omega), if_neg (by omega), if_neg (by omega), if_neg (by omega), if_neg (by omega), if_neg (by omega), if_neg (by omega), if_neg (by omega), if_neg (by omega), if_pos rfl]
theorem lendA_l {A : Nat → Int} {lN eN iN kx : Nat} {bo cx dx : Int} (hk : kx < 8) : lendA A lN eN iN bo cx dx (17 + 8 * lN + kx) = (if kx = 0 then bo else if kx = 1 then (eN : Int) else if kx = 2 then (iN : Int) else if kx = 3 then cx else if kx = 4 then cx else if kx = 5 then A 2 + dx else 0) := by
  unfold lendA
  repeat' split
  all_goals first | rfl | (exfalso; omega)
theorem o_lend_l {σ : oM} {hC eC Mn ix kx : Nat} {bo ed ins cx dx : Int} (h1 : hC + 84 + Mn < hC + 104) (h2 : eC + 12 < hC + 84) (h3 : hC < eC) (hk : kx < 8) : o_lend σ hC eC Mn ix bo ed ins cx dx (hC + 84 + Mn) kx = (if kx = 7 then 0 else if kx = 6 then σ hC 7 + dx else if kx = 5 then 0 else if kx = 4 then cx else if kx = 3 then cx else if kx = 2 then ins else if kx = 1 then ed else bo) := by
  unfold o_lend
  rw [o_up_ne (by omega), o_up_ne (by omega), o_up_ne (by omega), o_lnc_at]
  repeat' split
  all_goals first | rfl | (exfalso; omega)
theorem o_lend_10 {σ : oM} {hC eC Mn ix jx : Nat} {bo ed ins cx dx : Int} (h2 : eC + 12 < hC + 84) (h3 : hC < eC) : o_lend σ hC eC Mn ix bo ed ins cx dx (eC + 10) jx = σ (eC + 10) jx - (if jx = ix then cx else 0) := by
  unfold o_lend
  rw [o_up_ne (by omega)]
  by_cases hj : jx = ix
  · rw [hj, o_up_at, if_pos rfl]
  · rw [o_up_nj (Or.inr hj), o_up_ne (by omega), o_lnc_ne (by omega), if_neg hj]
    omega
theorem o_lend_11 {σ : oM} {hC eC Mn ix jx : Nat} {bo ed ins cx dx : Int} (h2 : eC + 12 < hC + 84) (h3 : hC < eC) : o_lend σ hC eC Mn ix bo ed ins cx dx (eC + 11) jx = σ (eC + 11) jx + (if jx = ix then cx else 0) := by
  unfold o_lend
  by_cases hj : jx = ix
  · rw [hj, o_up_at, if_pos rfl]
  · rw [o_up_nj (Or.inr hj), o_up_ne (by omega), o_up_ne (by omega), o_lnc_ne (by omega), if_neg hj]
    omega
theorem lendA_nE {A : Nat → Int} {lN eN iN : Nat} {bo cx dx : Int} : nEd (lendA A lN eN iN bo cx dx) = nEd A := by
  unfold nEd
  rw [lendA_ne (by omega) (by omega) (by omega)]
theorem lendA_nL {Bd : Int} {A : Nat → Int} {lN eN iN : Nat} {bo cx dx : Int} (h : oI Bd A) : nLn (lendA A lN eN iN bo cx dx) = nLn A + 1 := by
  have hn := oI_n h
  have h2 : nLn (lendA A lN eN iN bo cx dx) = (A 1 + 1).toNat := by
    show (lendA A lN eN iN bo cx dx 1).toNat = _
    rw [lendA_1]
  omega
theorem lendA_nB {A : Nat → Int} {lN eN iN ex : Nat} {bo cx dx : Int} (hl : lN < 20) (hi : iN < 6) : nBr (lendA A lN eN iN bo cx dx) ex = nBr A ex := by
  unfold nBr
  rw [lendA_ne (by omega) (by omega) (by omega)]
theorem oHR_lend {σ : oM} {hC eN iN : Nat} {A : Nat → Int} {Bd bo cx dx : Int} (h : oHR σ hC A) (hI : oI Bd A) (heN : eN < nEd A) (hi : iN < 6) (hM : nLn A < 20) : oHR (o_lend σ hC (hC + 2 + 13 * eN) (nLn A) iN bo (eN : Int) (iN : Int) cx dx) hC (lendA A (nLn A) eN iN bo cx dx) := by
  have hn := oI_n hI
  have heN6 : eN < 6 := by omega
  obtain ⟨h0, h5, h7, hw, hp, -, -⟩ := id h
  have hnE := lendA_nE (A := A) (lN := nLn A) (eN := eN) (iN := iN) (bo := bo) (cx := cx) (dx := dx)
  have hnL := lendA_nL (lN := nLn A) (eN := eN) (iN := iN) (bo := bo) (cx := cx) (dx := dx) hI
  have hnB : ∀ ex, nBr (lendA A (nLn A) eN iN bo cx dx) ex = nBr A ex := fun ex => lendA_nB hM hi
  have hne : ∀ x, x ≠ hC + 84 + nLn A → x ≠ hC → x ≠ hC + 2 + 13 * eN + 10 → x ≠ hC + 2 + 13 * eN + 11 → o_lend σ hC (hC + 2 + 13 * eN) (nLn A) iN bo (eN : Int) (iN : Int) cx dx x = σ x := fun x q1 q2 q3 q4 => o_lend_ne q1 q2 q3 q4
  have hh : ∀ kx, o_lend σ hC (hC + 2 + 13 * eN) (nLn A) iN bo (eN : Int) (iN : Int) cx dx hC kx = if kx = 5 then ((nLn A : Nat) : Int) + 1 else σ hC kx := fun kx => o_lend_h (by omega)
  refine oHR_mk ?_ ?_ ?_ (fun wx hx => ?_) (fun wx hx => ?_) (fun ix hx => ?_) (fun lx hx fk kx hk => ?_) (fun ex he => ?_) (fun ex he => ?_) (fun ex he => ?_) (fun ex he ix hx => ?_) (fun ex he ix hx => ?_) (fun ex he ix hx => ?_) (fun ex he jx j1 j2 rk kx hk => ?_)
  · rw [hh, if_neg (by decide), hnE]
    exact h0
  · rw [hh, if_pos rfl, hnL]
    omega
  · rw [hh, if_neg (by decide), lendA_ne (by omega) (by omega) (by omega)]
    exact h7
  · rw [hne _ (by omega) (by omega) (by omega) (by omega), lendA_ne (by omega) (by omega) (by omega)]
    exact (hw wx hx).1
  · rw [hne _ (by omega) (by omega) (by omega) (by omega), lendA_ne (by omega) (by omega) (by omega)]
    exact (hw wx hx).2
  · rw [hne _ (by omega) (by omega) (by omega) (by omega), lendA_ne (by omega) (by omega) (by omega)]
    exact hp ix hx
  · rw [hnL] at hx
    by_cases hc : lx = nLn A
    · subst hc
      rw [o_lend_l (by omega) (by omega) (by omega) (by omega), lendA_l (by omega), h7]
      rcases (show (fk = 0 ∧ kx = 0) ∨ (fk = 1 ∧ kx = 1) ∨ (fk = 2 ∧ kx = 2) ∨ (fk = 3 ∧ kx = 3) ∨ (fk = 4 ∧ kx = 4) ∨ (fk = 5 ∧ kx = 7) ∨ (fk = 6 ∧ kx = 5) ∨ (fk = 7 ∧ kx = 6) by omega) with ⟨rfl, rfl⟩ | ⟨rfl, rfl⟩ | ⟨rfl, rfl⟩ | ⟨rfl, rfl⟩ | ⟨rfl, rfl⟩ | ⟨rfl, rfl⟩ | ⟨rfl, rfl⟩ | ⟨rfl, rfl⟩ <;> rfl
    · rw [hne _ (by omega) (by omega) (by omega) (by omega), lendA_ne (by omega) (by omega) (by omega)]
      exact oHR_l h (by omega) hk
  · rw [hnE] at he
    rw [hne _ (by omega) (by omega) (by omega) (by omega), lendA_ne (by omega) (by omega) (by omega)]
    exact (oHR_e h he).1
  · rw [hnE] at he
    rw [hne _ (by omega) (by omega) (by omega) (by omega), lendA_ne (by omega) (by omega) (by omega)]
    exact (oHR_e h he).2.1
  · rw [hnE] at he
    rw [hne _ (by omega) (by omega) (by omega) (by omega), hnB]
    exact (oHR_e h he).2.2
  · rw [hnE] at he
    obtain ⟨q1, q2, q3⟩ := oHR_c h he hx
    rw [lendA_ne (x := 180 + 813 * ex + 3 * ix) (by omega) (by omega) (by omega), lendA_ne (x := 182 + 813 * ex + 3 * ix) (by omega) (by omega) (by omega)]
    by_cases hc : ex = eN
    · subst hc
      rw [o_lend_10 (by omega) (by omega)]
      by_cases hj : ix = iN
      · subst hj
        rw [lendA_o hM, if_pos rfl, q1]
        omega
      · rw [lendA_ne (by omega) (by omega) (by omega), if_neg hj, q1]
        omega
    · rw [hne _ (by omega) (by omega) (by omega) (by omega), lendA_ne (by omega) (by omega) (by omega)]
      exact q1
  · rw [hnE] at he
    obtain ⟨q1, q2, q3⟩ := oHR_c h he hx
    by_cases hc : ex = eN
    · subst hc
      rw [o_lend_11 (by omega) (by omega)]
      by_cases hj : ix = iN
      · subst hj
        rw [lendA_o hM, if_pos rfl, q2]
      · rw [lendA_ne (by omega) (by omega) (by omega), if_neg hj, q2]
        omega
    · rw [hne _ (by omega) (by omega) (by omega) (by omega), lendA_ne (by omega) (by omega) (by omega)]
      exact q2
  · rw [hnE] at he
    obtain ⟨q1, q2, q3⟩ := oHR_c h he hx
    rw [hne _ (by omega) (by omega) (by omega) (by omega), lendA_ne (by omega) (by omega) (by omega)]
    exact q3
  · rw [hnE] at he
    rw [hnB] at j2
    have hb9 := (oI_b hI he).2.2.2
    rw [hne _ (by omega) (by omega) (by omega) (by omega), lendA_ne (by omega) (by omega) (by rcases (show ex < eN ∨ ex = eN ∨ eN < ex by omega) with hjx | hjx | hjx <;> omega)]
    exact oHR_r h he j1 j2 hk
/-- the bounds after a change of loans and of copies out or lost -/
theorem oI_lo {Bd B2 : Int} {A A2 : Nat → Int} (h : oI Bd A) (hb : Bd ≤ B2) (hb2 : B2 ≤ 100000000) (h1 : 0 ≤ A2 1 ∧ A2 1 ≤ 20) (h2 : ∀ x, x < 17 → x ≠ 1 → A2 x = A x)
  (hl : ∀ lx, lx < nLn A2 → ∀ kx, kx < 8 → 0 ≤ A2 (17 + 8 * lx + kx) ∧ (kx = 0 → A2 (17 + 8 * lx + kx) ≤ 5) ∧ (kx = 1 → A2 (17 + 8 * lx + kx) < A 0) ∧ (kx = 2 → A2 (17 + 8 * lx + kx) ≤ 5) ∧ (kx = 3 → 1 ≤ A2 (17 + 8 * lx + kx) ∧ A2 (17 + 8 * lx + kx) ≤ 30) ∧ (kx = 4 → A2 (17 + 8 * lx + kx) ≤ 30) ∧ (kx = 5 → A2 (17 + 8 * lx + kx) ≤ 20000) ∧ (6 ≤ kx → A2 (17 + 8 * lx + kx) ≤ B2))
  (he : ∀ ex kx, ex < nEd A → kx < 813 → (kx < 3 ∨ 21 ≤ kx ∨ kx % 3 = 0) → A2 (177 + 813 * ex + kx) = A (177 + 813 * ex + kx))
  (hc : ∀ ex ix, ex < nEd A → ix < 6 → (-B2 ≤ A2 (181 + 813 * ex + 3 * ix) ∧ A2 (181 + 813 * ex + 3 * ix) ≤ B2) ∧ (-B2 ≤ A2 (182 + 813 * ex + 3 * ix) ∧ A2 (182 + 813 * ex + 3 * ix) ≤ B2)) : oI B2 A2 := by
  have hn := oI_n h
  have hnE : nEd A2 = nEd A := by
    unfold nEd
    rw [h2 0 (by omega) (by omega)]
  have hnB : ∀ ex, ex < nEd A → nBr A2 ex = nBr A ex := fun ex hx => by
    show (A2 (178 + 813 * ex)).toNat = _
    rw [show 178 + 813 * ex = 177 + 813 * ex + 1 by omega, he ex 1 hx (by omega) (by omega), show 177 + 813 * ex + 1 = 178 + 813 * ex by omega]
    rfl
  refine oI_mk ⟨by have := h.1; omega, hb2⟩ ?_ h1 ?_ (fun wx hx => ?_) (fun wx hx => ?_) (fun ix hx => ?_) (fun lx hx kx hk => ?_) (fun ex hx => ?_) (fun ex hx ix hi => ?_) (fun ex hx jx j1 j2 kx hk => ?_) ?_
  · rw [h2 0 (by omega) (by omega)]
    exact h.2.1
  · rw [h2 2 (by omega) (by omega)]
    exact h.2.2.2.1
  · rw [h2 _ (by omega) (by omega)]
    have := (h.2.2.2.2.1 wx hx).1
    omega
  · rw [h2 _ (by omega) (by omega)]
    have := (h.2.2.2.2.1 wx hx).2
    omega
  · rw [h2 _ (by omega) (by omega)]
    exact h.2.2.2.2.2.1 ix hx
  · rw [h2 0 (by omega) (by omega)]
    exact hl lx hx kx hk
  · rw [hnE] at hx
    have e0 := he ex 0 hx (by omega) (by omega)
    have e1 := he ex 1 hx (by omega) (by omega)
    have e2 := he ex 2 hx (by omega) (by omega)
    rw [show 177 + 813 * ex + 0 = 177 + 813 * ex by omega] at e0
    rw [show 177 + 813 * ex + 1 = 178 + 813 * ex by omega] at e1
    rw [show 177 + 813 * ex + 2 = 179 + 813 * ex by omega] at e2
    rw [e0, e1, e2]
    have := (oI_b h hx).1
    exact ⟨this.1, this.2.1, this.2.2.1⟩
  · rw [hnE] at hx
    have e0 := he ex (3 + 3 * ix) hx (by omega) (by omega)
    rw [show 177 + 813 * ex + (3 + 3 * ix) = 180 + 813 * ex + 3 * ix by omega] at e0
    rw [e0]
    exact ⟨((oI_b h hx).1.2.2.2.1 ix hi).1, (hc ex ix hx hi).1, (hc ex ix hx hi).2⟩
  · rw [hnE] at hx
    rw [hnB ex hx] at j2
    have hb9 := (oI_b h hx).2.2.2
    have e0 := he ex (13 + 8 * jx + kx) hx (by omega) (by omega)
    rw [show 177 + 813 * ex + (13 + 8 * jx + kx) = 190 + 813 * ex + 8 * jx + kx by omega] at e0
    rw [e0]
    have := oI_r h hx j1 j2 hk
    omega
  · obtain ⟨pos, hpos⟩ := h.2.2.2.2.2.2.2.2
    refine ⟨pos, fun ex hx jx j1 j2 => ?_⟩
    rw [hnE] at hx
    rw [hnB ex hx] at j2
    have hb9 := (oI_b h hx).2.2.2
    have hw3 := (oI_b h hx).1.1
    have e7 := he ex 0 hx (by omega) (by omega)
    rw [show 177 + 813 * ex + 0 = 177 + 813 * ex by omega] at e7
    have hr : ∀ yx, 1 ≤ yx → yx ≤ nBr A ex → A2 (190 + 813 * ex + 8 * yx) = A (190 + 813 * ex + 8 * yx) := fun yx y1 y2 => by
      have e0 := he ex (13 + 8 * yx) hx (by omega) (by omega)
      rw [show 177 + 813 * ex + (13 + 8 * yx) = 190 + 813 * ex + 8 * yx by omega] at e0
      exact e0
    have hp := hpos ex hx jx j1 j2
    rw [e7, hr jx j1 j2, h2 _ (by omega) (by omega)]
    refine ⟨hp.1, fun kx k1 k2 => ?_⟩
    rw [hnB ex hx] at k2
    rw [hr kx (by omega) k2]
    exact hp.2 kx k1 k2
theorem oI_lend {Bd bo cx dx : Int} {eN iN : Nat} {A : Nat → Int} (h : oI Bd A) (hBd : Bd ≤ 99999900) (heN : eN < nEd A) (hi : iN < 6) (hM : nLn A < 20) (hbo : 0 ≤ bo ∧ bo ≤ 5) (hcx : 1 ≤ cx ∧ cx ≤ 30) (hdx : 0 ≤ dx ∧ dx ≤ 999) : oI (Bd + 30) (lendA A (nLn A) eN iN bo cx dx) := by
  have hn := oI_n h
  have h1 := h.1
  refine oI_lo h (by omega) (by omega) ?_ (fun x x1 x2 => lendA_ne x2 (by omega) (by omega)) (fun lx hx kx hk => ?_) (fun ex kx hx k1 k2 => lendA_ne (by omega) (by omega) (by omega)) (fun ex ix hx hi2 => ?_)
  · rw [lendA_1]
    omega
  · rw [lendA_nL h] at hx
    by_cases hc : lx = nLn A
    · subst hc
      rw [lendA_l hk]
      have hd2 := h.2.2.2.1
      rcases (show kx = 0 ∨ kx = 1 ∨ kx = 2 ∨ kx = 3 ∨ kx = 4 ∨ kx = 5 ∨ kx = 6 ∨ kx = 7 by omega) with rfl | rfl | rfl | rfl | rfl | rfl | rfl | rfl <;> simp <;> omega
    · rw [lendA_ne (by omega) (by omega) (by omega)]
      have := oI_l h (lx := lx) (by omega) hk
      omega
  · have hq := (oI_b h hx).1.2.2.2.1 ix hi2
    rw [lendA_ne (x := 182 + 813 * ex + 3 * ix) (by omega) (by omega) (by omega)]
    by_cases hc : ex = eN ∧ ix = iN
    · obtain ⟨rfl, rfl⟩ := hc
      rw [lendA_o hM]
      omega
    · rw [lendA_ne (by omega) (by omega) (by omega)]
      omega
/-- copies brought back -/
def brgA (A : Nat → Int) (lN eN iN : Nat) (gd bd fee : Int) : Nat → Int := fun x =>
  if x = 21 + 8 * lN then A x - (gd + bd) else if x = 23 + 8 * lN then A x + fee else if x = 24 + 8 * lN then A x + bd
  else if x = 181 + 813 * eN + 3 * iN then A x - (gd + bd) else if x = 182 + 813 * eN + 3 * iN then A x + bd else A x
theorem brgA_ne {A : Nat → Int} {lN eN iN x : Nat} {gd bd fee : Int} (h1 : x ≠ 21 + 8 * lN ∧ x ≠ 23 + 8 * lN ∧ x ≠ 24 + 8 * lN) (h2 : x ≠ 181 + 813 * eN + 3 * iN ∧ x ≠ 182 + 813 * eN + 3 * iN) : brgA A lN eN iN gd bd fee x = A x := by
  unfold brgA
  rw [if_neg h1.1, if_neg h1.2.1, if_neg h1.2.2, if_neg h2.1, if_neg h2.2]
theorem brgA_l {A : Nat → Int} {lN eN iN kx : Nat} {gd bd fee : Int} (hl : lN < 20) (hk : kx < 8) : brgA A lN eN iN gd bd fee (17 + 8 * lN + kx) = A (17 + 8 * lN + kx) + (if kx = 4 then -(gd + bd) else if kx = 6 then fee else if kx = 7 then bd else 0) := by
  unfold brgA
  repeat' split
  all_goals first | omega | (exfalso; omega)
theorem brgA_c {A : Nat → Int} {lN eN iN kx : Nat} {gd bd fee : Int} (hl : lN < 20) (hk : kx < 3) : brgA A lN eN iN gd bd fee (180 + 813 * eN + 3 * iN + kx) = A (180 + 813 * eN + 3 * iN + kx) + (if kx = 1 then -(gd + bd) else if kx = 2 then bd else 0) := by
  unfold brgA
  repeat' split
  all_goals first | omega | (exfalso; omega)
theorem o_brg_ne {σ : oM} {aC eC ix x : Nat} {gd bd fee : Int} (h1 : x ≠ aC) (h2 : x ≠ eC + 10) (h3 : x ≠ eC + 11) (h4 : x ≠ eC + 12) : o_brg σ aC eC ix gd bd fee x = σ x := by
  unfold o_brg
  rw [o_up_ne h4, o_up_ne h2, o_up_ne h3, o_up_ne h1, o_up_ne h1, o_up_ne h1]
theorem o_brg_l {σ : oM} {aC eC ix kx : Nat} {gd bd fee : Int} (h : eC + 12 < aC) : o_brg σ aC eC ix gd bd fee aC kx = σ aC kx + (if kx = 4 then -(gd + bd) else if kx = 5 then bd else if kx = 7 then fee else 0) := by
  unfold o_brg
  rw [o_up_ne (by omega), o_up_ne (by omega), o_up_ne (by omega)]
  simp only [o_up, true_and]
  repeat' split
  all_goals first | (subst_vars; omega) | (exfalso; omega)
theorem o_brg_c {σ : oM} {aC eC ix jx kx : Nat} {gd bd fee : Int} (h : eC + 12 < aC) (hk : kx < 3) : o_brg σ aC eC ix gd bd fee (eC + 10 + kx) jx = σ (eC + 10 + kx) jx + (if jx = ix then (if kx = 0 then gd else if kx = 1 then -(gd + bd) else bd) else 0) := by
  rcases (show kx = 0 ∨ kx = 1 ∨ kx = 2 by omega) with rfl | rfl | rfl
  · unfold o_brg
    rw [show eC + 10 + 0 = eC + 10 by omega, o_up_ne (by omega)]
    by_cases hj : jx = ix
    · rw [hj, o_up_at, if_pos rfl, if_pos rfl]
    · rw [o_up_nj (Or.inr hj), o_up_ne (by omega), o_up_ne (by omega), o_up_ne (by omega), o_up_ne (by omega), if_neg hj]
      omega
  · unfold o_brg
    rw [show eC + 10 + 1 = eC + 11 by omega, o_up_ne (by omega), o_up_ne (by omega)]
    by_cases hj : jx = ix
    · rw [hj, o_up_at, if_pos rfl, if_neg (by decide), if_pos rfl]
      omega
    · rw [o_up_nj (Or.inr hj), o_up_ne (by omega), o_up_ne (by omega), o_up_ne (by omega), if_neg hj]
      omega
  · unfold o_brg
    rw [show eC + 10 + 2 = eC + 12 by omega]
    by_cases hj : jx = ix
    · rw [hj, o_up_at, if_pos rfl, if_neg (by decide), if_neg (by decide)]
    · rw [o_up_nj (Or.inr hj), o_up_ne (by omega), o_up_ne (by omega), o_up_ne (by omega), o_up_ne (by omega), o_up_ne (by omega), if_neg hj]
      omega
theorem brgA_nE {A : Nat → Int} {lN eN iN : Nat} {gd bd fee : Int} : nEd (brgA A lN eN iN gd bd fee) = nEd A := by
  unfold nEd
  rw [brgA_ne (by omega) (by omega)]
theorem brgA_nL {A : Nat → Int} {lN eN iN : Nat} {gd bd fee : Int} : nLn (brgA A lN eN iN gd bd fee) = nLn A := by
  unfold nLn
  rw [brgA_ne (by omega) (by omega)]
theorem brgA_nB {A : Nat → Int} {lN eN iN ex : Nat} {gd bd fee : Int} (hl : lN < 20) (hi : iN < 6) : nBr (brgA A lN eN iN gd bd fee) ex = nBr A ex := by
  unfold nBr
  rw [brgA_ne (by omega) (by omega)]
theorem oHR_brg {σ : oM} {hC lN eN iN : Nat} {A : Nat → Int} {Bd gd bd fee : Int} (h : oHR σ hC A) (hI : oI Bd A) (hlN : lN < nLn A) (heN : eN < nEd A) (hi : iN < 6) : oHR (o_brg σ (hC + 84 + lN) (hC + 2 + 13 * eN) iN gd bd fee) hC (brgA A lN eN iN gd bd fee) := by
  have hn := oI_n hI
  have heN6 : eN < 6 := by omega
  have hl20 : lN < 20 := by omega
  obtain ⟨h0, h5, h7, hw, hp, -, -⟩ := id h
  have hnE := brgA_nE (A := A) (lN := lN) (eN := eN) (iN := iN) (gd := gd) (bd := bd) (fee := fee)
  have hnL := brgA_nL (A := A) (lN := lN) (eN := eN) (iN := iN) (gd := gd) (bd := bd) (fee := fee)
  have hnB : ∀ ex, nBr (brgA A lN eN iN gd bd fee) ex = nBr A ex := fun ex => brgA_nB hl20 hi
  have hne : ∀ x, x ≠ hC + 84 + lN → x ≠ hC + 2 + 13 * eN + 10 → x ≠ hC + 2 + 13 * eN + 11 → x ≠ hC + 2 + 13 * eN + 12 → o_brg σ (hC + 84 + lN) (hC + 2 + 13 * eN) iN gd bd fee x = σ x := fun x q1 q2 q3 q4 => o_brg_ne q1 q2 q3 q4
  have hcp : ∀ jx kx, kx < 3 → o_brg σ (hC + 84 + lN) (hC + 2 + 13 * eN) iN gd bd fee (hC + 2 + 13 * eN + 10 + kx) jx = _ := fun jx kx hk => o_brg_c (by omega) hk
  refine oHR_mk ?_ ?_ ?_ (fun wx hx => ?_) (fun wx hx => ?_) (fun ix hx => ?_) (fun lx hx fk kx hk => ?_) (fun ex he => ?_) (fun ex he => ?_) (fun ex he => ?_) (fun ex he ix hx => ?_) (fun ex he ix hx => ?_) (fun ex he ix hx => ?_) (fun ex he jx j1 j2 rk kx hk => ?_)
  · rw [hne _ (by omega) (by omega) (by omega) (by omega), hnE]
    exact h0
  · rw [hne _ (by omega) (by omega) (by omega) (by omega), hnL]
    exact h5
  · rw [hne _ (by omega) (by omega) (by omega) (by omega), brgA_ne (by omega) (by omega)]
    exact h7
  · rw [hne _ (by omega) (by omega) (by omega) (by omega), brgA_ne (by omega) (by omega)]
    exact (hw wx hx).1
  · rw [hne _ (by omega) (by omega) (by omega) (by omega), brgA_ne (by omega) (by omega)]
    exact (hw wx hx).2
  · rw [hne _ (by omega) (by omega) (by omega) (by omega), brgA_ne (by omega) (by omega)]
    exact hp ix hx
  · rw [hnL] at hx
    have hv := oHR_l h hx hk
    by_cases hc : lx = lN
    · subst hc
      rw [o_brg_l (by omega), brgA_l hl20 (by omega), hv]
      congr 1
      rcases (show (fk = 0 ∧ kx = 0) ∨ (fk = 1 ∧ kx = 1) ∨ (fk = 2 ∧ kx = 2) ∨ (fk = 3 ∧ kx = 3) ∨ (fk = 4 ∧ kx = 4) ∨ (fk = 5 ∧ kx = 7) ∨ (fk = 6 ∧ kx = 5) ∨ (fk = 7 ∧ kx = 6) by omega) with ⟨rfl, rfl⟩ | ⟨rfl, rfl⟩ | ⟨rfl, rfl⟩ | ⟨rfl, rfl⟩ | ⟨rfl, rfl⟩ | ⟨rfl, rfl⟩ | ⟨rfl, rfl⟩ | ⟨rfl, rfl⟩ <;> rfl
    · rw [hne _ (by omega) (by omega) (by omega) (by omega), brgA_ne (by omega) (by omega)]
      exact hv
  · rw [hnE] at he
    rw [hne _ (by omega) (by omega) (by omega) (by omega), brgA_ne (by omega) (by omega)]
    exact (oHR_e h he).1
  · rw [hnE] at he
    rw [hne _ (by omega) (by omega) (by omega) (by omega), brgA_ne (by omega) (by omega)]
    exact (oHR_e h he).2.1
  · rw [hnE] at he
    rw [hne _ (by omega) (by omega) (by omega) (by omega), hnB]
    exact (oHR_e h he).2.2
  · rw [hnE] at he
    obtain ⟨q1, q2, q3⟩ := oHR_c h he hx
    by_cases hc : ex = eN ∧ ix = iN
    · obtain ⟨rfl, rfl⟩ := hc
      have a0 := brgA_c (A := A) (eN := ex) (iN := ix) (kx := 0) (gd := gd) (bd := bd) (fee := fee) hl20 (by omega)
      have a1 := brgA_c (A := A) (eN := ex) (iN := ix) (kx := 1) (gd := gd) (bd := bd) (fee := fee) hl20 (by omega)
      have a2 := brgA_c (A := A) (eN := ex) (iN := ix) (kx := 2) (gd := gd) (bd := bd) (fee := fee) hl20 (by omega)
      have b0 := hcp ix 0 (by omega)
      simp only [show 180 + 813 * ex + 3 * ix + 0 = 180 + 813 * ex + 3 * ix by omega, show 180 + 813 * ex + 3 * ix + 1 = 181 + 813 * ex + 3 * ix by omega, show 180 + 813 * ex + 3 * ix + 2 = 182 + 813 * ex + 3 * ix by omega, Nat.add_zero, if_true] at a0 a1 a2 b0
      rw [b0, a0, a1, a2, q1]
      simp
      omega
    · rw [brgA_ne (by omega) (by omega), brgA_ne (by omega) (by omega), brgA_ne (by omega) (by omega), ← q1]
      by_cases he2 : ex = eN
      · subst he2
        have b0 := hcp ix 0 (by omega)
        simp only [Nat.add_zero] at b0
        rw [if_neg (fun hj => hc ⟨rfl, hj⟩)] at b0
        rw [b0]
        omega
      · rw [hne _ (by omega) (by omega) (by omega) (by omega)]
  · rw [hnE] at he
    obtain ⟨q1, q2, q3⟩ := oHR_c h he hx
    by_cases hc : ex = eN ∧ ix = iN
    · obtain ⟨rfl, rfl⟩ := hc
      have a1 := brgA_c (A := A) (eN := ex) (iN := ix) (kx := 1) (gd := gd) (bd := bd) (fee := fee) hl20 (by omega)
      have b0 := hcp ix 1 (by omega)
      rw [show 180 + 813 * ex + 3 * ix + 1 = 181 + 813 * ex + 3 * ix by omega] at a1
      rw [show hC + 2 + 13 * ex + 10 + 1 = hC + 2 + 13 * ex + 11 by omega] at b0
      rw [b0, a1, q2, if_pos rfl]
      rfl
    · rw [brgA_ne (by omega) (by omega), ← q2]
      by_cases he2 : ex = eN
      · subst he2
        have b0 := hcp ix 1 (by omega)
        rw [show hC + 2 + 13 * ex + 10 + 1 = hC + 2 + 13 * ex + 11 by omega, if_neg (fun hj => hc ⟨rfl, hj⟩)] at b0
        rw [b0]
        omega
      · rw [hne _ (by omega) (by omega) (by omega) (by omega)]
  · rw [hnE] at he
    obtain ⟨q1, q2, q3⟩ := oHR_c h he hx
    by_cases hc : ex = eN ∧ ix = iN
    · obtain ⟨rfl, rfl⟩ := hc
      have a1 := brgA_c (A := A) (eN := ex) (iN := ix) (kx := 2) (gd := gd) (bd := bd) (fee := fee) hl20 (by omega)
      have b0 := hcp ix 2 (by omega)
      rw [show 180 + 813 * ex + 3 * ix + 2 = 182 + 813 * ex + 3 * ix by omega] at a1
      rw [show hC + 2 + 13 * ex + 10 + 2 = hC + 2 + 13 * ex + 12 by omega] at b0
      rw [b0, a1, q3, if_pos rfl]
      rfl
    · rw [brgA_ne (by omega) (by omega), ← q3]
      by_cases he2 : ex = eN
      · subst he2
        have b0 := hcp ix 2 (by omega)
        rw [show hC + 2 + 13 * ex + 10 + 2 = hC + 2 + 13 * ex + 12 by omega, if_neg (fun hj => hc ⟨rfl, hj⟩)] at b0
        rw [b0]
        omega
      · rw [hne _ (by omega) (by omega) (by omega) (by omega)]
  · rw [hnE] at he
    rw [hnB] at j2
    have hb9 := (oI_b hI he).2.2.2
    rw [hne _ (by omega) (by omega) (by omega) (by omega), brgA_ne (by omega) (by rcases (show ex < eN ∨ ex = eN ∨ eN < ex by omega) with hjx | hjx | hjx <;> omega)]
    exact oHR_r h he j1 j2 hk
theorem oI_brg {Bd gd bd fee : Int} {lN eN iN : Nat} {A : Nat → Int} (h : oI Bd A) (hBd : Bd ≤ 99990000) (hlN : lN < nLn A) (heN : eN < nEd A) (hi : iN < 6) (hg : 0 ≤ gd ∧ gd ≤ 30) (hbd : 0 ≤ bd ∧ bd ≤ 30) (hs : gd + bd ≤ A (21 + 8 * lN)) (hf : 0 ≤ fee ∧ fee ≤ 2700) : oI (Bd + 2700) (brgA A lN eN iN gd bd fee) := by
  have hn := oI_n h
  have h1 := h.1
  have hl20 : lN < 20 := by omega
  refine oI_lo h (by omega) (by omega) ?_ (fun x x1 x2 => brgA_ne (by omega) (by omega)) (fun lx hx kx hk => ?_) (fun ex kx hx k1 k2 => brgA_ne (by omega) (by omega)) (fun ex ix hx hi2 => ?_)
  · rw [brgA_ne (by omega) (by omega)]
    exact h.2.2.1
  · rw [brgA_nL] at hx
    have ho := oI_l h hx hk
    by_cases hc : lx = lN
    · subst hc
      rw [brgA_l hl20 hk]
      rcases (show kx = 0 ∨ kx = 1 ∨ kx = 2 ∨ kx = 3 ∨ kx = 4 ∨ kx = 5 ∨ kx = 6 ∨ kx = 7 by omega) with rfl | rfl | rfl | rfl | rfl | rfl | rfl | rfl
      · simp at ho ⊢
        omega
      · simp at ho ⊢
        omega
      · simp at ho ⊢
        omega
      · simp at ho ⊢
        omega
      · rw [show 17 + 8 * lx + 4 = 21 + 8 * lx by omega] at ho ⊢
        simp at ho ⊢
        omega
      · simp at ho ⊢
        omega
      · simp at ho ⊢
        omega
      · simp at ho ⊢
        omega
    · rw [brgA_ne (by omega) (by omega)]
      omega
  · have hq := (oI_b h hx).1.2.2.2.1 ix hi2
    by_cases hc : ex = eN ∧ ix = iN
    · obtain ⟨rfl, rfl⟩ := hc
      have a1 := brgA_c (A := A) (eN := ex) (iN := ix) (kx := 1) (gd := gd) (bd := bd) (fee := fee) hl20 (by omega)
      have a2 := brgA_c (A := A) (eN := ex) (iN := ix) (kx := 2) (gd := gd) (bd := bd) (fee := fee) hl20 (by omega)
      rw [show 180 + 813 * ex + 3 * ix + 1 = 181 + 813 * ex + 3 * ix by omega, if_pos rfl] at a1
      rw [show 180 + 813 * ex + 3 * ix + 2 = 182 + 813 * ex + 3 * ix by omega, if_neg (by decide), if_pos rfl] at a2
      rw [a1, a2]
      omega
    · rw [brgA_ne (by omega) (by omega), brgA_ne (by omega) (by omega)]
      omega
def fLend (A : Nat → Int) (rf z v w u d : Int) : Int × (Nat → Int) × Int :=
  if (0 ≤ z ∧ z ≤ 5) ∧ isEdF A v ∧ (0 ≤ w ∧ w ≤ 5) then (if (1 ≤ u ∧ u ≤ 30) ∧ (0 ≤ d ∧ d ≤ 999) then (if inF A v.toNat w.toNat < u then (-5, A, 1) else if 0 < owesF A z 3 then (-5, A, 2) else if 20 ≤ A 1 then (-5, A, 3)
    else (A 1, lendA A (A 1).toNat v.toNat w.toNat z u d, rf)) else (-2, A, rf))
  else (-1, A, rf)
theorem fLend_I {Bd : Int} {A : Nat → Int} {rf z v w u d : Int} (h : oI Bd A) (hBd : Bd ≤ 99999900) : oI (Bd + 30) (fLend A rf z v w u d).2.1 := by
  have hJ := oI_grow h (B2 := Bd + 30) (by omega) (by omega)
  have hn := oI_n h
  unfold fLend
  by_cases h1 : (0 ≤ z ∧ z ≤ 5) ∧ isEdF A v ∧ (0 ≤ w ∧ w ≤ 5)
  · rw [if_pos h1]
    obtain ⟨eN, rfl, g1, g2⟩ := isEd_n h h1.2.1
    split
    · split
      · exact hJ
      · split
        · exact hJ
        · split
          · exact hJ
          · have e1 : (A 1).toNat = nLn A := rfl
            rw [e1, Int.toNat_natCast]
            exact oI_lend h hBd g1 (by omega) (by omega) h1.1 (by omega) (by omega)
    · exact hJ
  · rw [if_neg h1]
    exact hJ
theorem fLend_r {Bd : Int} {A : Nat → Int} {rf z v w u d : Int} (h : oI Bd A) : o_r (fLend A rf z v w u d).1 := by
  have h2 := h.2.2.1
  unfold fLend
  repeat' split
  all_goals first | (show o_r (-5); omega) | (show o_r (-2); omega) | (show o_r (-1); omega) | (show o_r (A 1); omega)
def fBring (A : Nat → Int) (rf z v w : Int) : Int × (Nat → Int) × Int :=
  if isLnF A z then (if (0 ≤ v ∧ v ≤ 30) ∧ (0 ≤ w ∧ w ≤ 30) ∧ v + w ≠ 0 then (if A (21 + 8 * z.toNat) < v + w then (-5, A, 5)
    else (feeF (A 2) (A (22 + 8 * z.toNat)) v w, brgA A z.toNat (A (18 + 8 * z.toNat)).toNat (A (19 + 8 * z.toNat)).toNat v w (feeF (A 2) (A (22 + 8 * z.toNat)) v w), rf)) else (-2, A, rf))
  else (-1, A, rf)
theorem feeF_in {day du gd bd : Int} (hg : 0 ≤ gd ∧ gd ≤ 30) (hb : 0 ≤ bd ∧ bd ≤ 30) : 0 ≤ feeF day du gd bd ∧ feeF day du gd bd ≤ 2700 := by
  unfold feeF
  have key : ∀ x : Int, 0 ≤ x → x ≤ 20 → 0 ≤ (gd + bd) * x + bd * 50 ∧ (gd + bd) * x + bd * 50 ≤ 2700 := fun x x0 x1 => by
    have q1 : 0 ≤ (gd + bd) * x := Int.mul_nonneg (by omega) x0
    have q2 : (gd + bd) * x ≤ 60 * 20 := Int.mul_le_mul (by omega) x1 x0 (by omega)
    omega
  by_cases c1 : day - du ≤ 0
  · rw [if_pos c1, if_neg (by decide)]
    exact key 0 (by omega) (by omega)
  · rw [if_neg c1]
    by_cases c2 : 20 ≤ day - du
    · rw [if_pos c2]
      exact key 20 (by omega) (by omega)
    · rw [if_neg c2]
      exact key _ (by omega) (by omega)
theorem fBring_I {Bd : Int} {A : Nat → Int} {rf z v w : Int} (h : oI Bd A) (hBd : Bd ≤ 99990000) : oI (Bd + 2700) (fBring A rf z v w).2.1 := by
  have hJ := oI_grow h (B2 := Bd + 2700) (by omega) (by omega)
  have hn := oI_n h
  unfold fBring
  by_cases h1 : isLnF A z
  · rw [if_pos h1]
    obtain ⟨lN, rfl, g1⟩ : ∃ lN : Nat, z = (lN : Int) ∧ lN < nLn A := ⟨z.toNat, by omega, by omega⟩
    have hl := h.2.2.2.2.2.2.1 lN g1
    rw [Int.toNat_natCast]
    split
    · split
      · exact hJ
      · exact oI_brg h hBd g1 (by omega) (by omega) (by omega) (by omega) (by omega) (feeF_in (by omega) (by omega))
    · exact hJ
  · rw [if_neg h1]
    exact hJ
theorem fBring_r {A : Nat → Int} {rf z v w : Int} : o_r (fBring A rf z v w).1 := by
  unfold fBring
  split
  · split
    · rename_i h1
      split
      · show o_r (-5)
        omega
      · show o_r (feeF _ _ _ _)
        have := feeF_in (day := A 2) (du := A (22 + 8 * z.toNat)) h1.1 h1.2.1
        omega
    · show o_r (-2)
      omega
  · show o_r (-1)
    omega
theorem owes3 {A : Nat → Int} {z : Int} (h : nLn A ≤ 20) : 0 ≤ owesF A z 3 ∧ owesF A z 3 ≤ 20 := by
  have h1 : ((nLn A : Nat) : Int) * 0 ≤ owesF A z 3 ∧ owesF A z 3 ≤ ((nLn A : Nat) : Int) * 1 := sumF_in (fun i hi => by
    try simp only
    by_cases c1 : A (17 + 8 * i) = z
    · rw [if_pos c1, if_neg (show ¬ (3 : Int) = 0 by decide), if_neg (show ¬ (3 : Int) = 1 by decide), if_neg (show ¬ (3 : Int) = 2 by decide)]
      by_cases c2 : 0 < A (21 + 8 * i) ∧ A (22 + 8 * i) < A 2
      · rw [if_pos c2]
        omega
      · rw [if_neg c2]
        omega
    · rw [if_neg c1]
      omega)
  omega
set_option maxRecDepth 20000 in
set_option maxHeartbeats 8000000 in
theorem c_X8_lendPart {T : oT} {σ : oM} {xC : Nat} {A : Nat → Int} {Bd : Int} (hX : oX T xC) (hR : oHR σ (xC + 1) A) (hI : oI Bd A) {z v w u d : Int} (hz : o_r z) (hv : o_r v) (hw : o_r w) (hu : o_r u) (hd : o_r d) : MS yX8_lendPart cX8_lendPart 6 (some FieldType.int) 3 0 0 67 [og xC, oi z, oi v, oi w, oi u, oi d] T σ (oPs (fun zx σ2 => zx = (fLend A (σ xC 10) z v w u d).1 ∧ oCh σ σ2 xC (fLend A (σ xC 10) z v w u d).2.1 (fLend A (σ xC 10) z v w u d).2.2) T) := by
  have hXc := hX
  obtain ⟨hX0, hXr0, hXr1, hXr2, hXr3, hXr4, hXr5, hXr6, hXn, hXs, hXy, hXq, hXk, hXb, hXbs, hXi, hXT⟩ := hXc
  have hHc := hXn
  obtain ⟨hH0, hH1, hH2, hH3, hH4, hH6, hG1, hG80, hG81, hG82, hG83, hEs, hLs, hHT⟩ := hHc
  have hRc := hR
  obtain ⟨hR0, hR5, hR7, hRw8, hRp, hRl, hRe⟩ := hRc
  have hIn := oI_n hI
  have hIc := hI
  obtain ⟨hI1, hI2, hI3, hI4, hI5, hI6, hI7, hI8, -⟩ := hIc
  refine o_met (by decide +kernel) (Nat.le_of_ble_eq_true rfl) (fun p l ee s m args below meth c G b C hr hn => ?_)
  have C : oCx p s m args meth c G b RX8 cX8_lendPart 6 := C
  show oW p l ee ({ frames := 3, cells := 0, slots := 0, locals := 67 } : Room) s m args below meth c G b 6 0 0 (MQ below (o_Qc G b (oPs (fun zx σ2 => zx = (fLend A (σ xC 10) z v w u d).1 ∧ oCh σ σ2 xC (fLend A (σ xC 10) z v w u d).2.1 (fLend A (σ xC 10) z v w u d).2.2) T)) args s 0 0 (fun q => b ≤ q)) T σ 0 [some (og xC), some (oi z), some (oi v), some (oi w), some (oi u), some (oi d)] []
  refine r_il1 (q := 1) C dX8_lendPart_0 rfl ?_
  refine r_callSb (q := 4) C (c_X8_isBorrower (by omega)) m_X8_286 dX8_lendPart_1 rfl rfl (by decide) (by decide) (Nat.le_of_ble_eq_true rfl) (fun br1 => ?_) (fun br1 => ?_)
  · refine r_ifeq_f (q := 22) (q2 := 7) C (by decide) (by omega) dX8_lendPart_4 (by decide) rfl ?_
    refine r_al0 (q := 8) C dX8_lendPart_7 rfl ?_
    refine r_il2 (q := 9) C dX8_lendPart_8 rfl ?_
    refine r_callVb (q := 12) C (c_X8_isEdition hX hR hI (by omega)) m_X8_87 (by assumption) (by omega) dX8_lendPart_9 rfl rfl (by decide) (by decide) (Nat.le_of_ble_eq_true rfl) (fun br9 => ?_) (fun br9 => ?_)
    · refine r_ifeq_f (q := 22) (q2 := 15) C (by decide) (by omega) dX8_lendPart_12 (by decide) rfl ?_
      refine r_il3 (q := 16) C dX8_lendPart_15 rfl ?_
      refine r_callSb (q := 19) C (c_X8_isInstrument (by omega)) m_X8_238 dX8_lendPart_16 rfl rfl (by decide) (by decide) (Nat.le_of_ble_eq_true rfl) (fun br16 => ?_) (fun br16 => ?_)
      · refine r_ifne_t (q := 24) C (by decide) (by omega) dX8_lendPart_19 (by decide) ?_
        have hs := fLend.eq_1 A (σ xC 10) z v w u d
        rw [if_pos ⟨br1, br9, br16⟩] at hs
        obtain ⟨eN, rfl, heN, heN6⟩ := isEd_n hI br9
        have hEj0 := (hEs eN (by omega)).1
        have hEd := (hEs eN (by omega)).2
        have hEj1 := hEd.1
        have hRE := oHR_e hR (ex := eN) (by omega)
        have hIE := oI_b hI (ex := eN) (by omega)
        obtain ⟨hRE0, hRE1, hRE2⟩ := hRE
        have hREc : ∀ ix, ix < 6 → _ := fun ix hi => oHR_c hR (ex := eN) (ix := ix) (by omega) hi
        have hREb : ∀ jx, 1 ≤ jx → jx ≤ nBr A eN → _ := fun jx j1 j2 => oHR_b hR (ex := eN) (jx := jx) (by omega) j1 j2
        obtain ⟨iN, rfl⟩ : ∃ iN : Nat, w = (iN : Int) := ⟨w.toNat, by omega⟩
        simp only [Int.toNat_natCast] at hs
        have hEdc := hEd
        obtain ⟨hE0, hE3, hE4, hE5, hE6, hE7, hE8, hE9, hE10, hA1, hA2, hA3, hA4, hA5, hRw, hA10, hA11, hA12, hTe⟩ := hEdc
        obtain ⟨hc1, hc2, hc3⟩ := hREc iN (by omega)
        have hin : σ ((xC + 1 + 2 + 13 * eN) + 10) iN = inF A eN iN := hc1
        have hinr : o_r (inF A eN iN) := by
          have := hIE.1.2.2.2.1 iN (by omega)
          unfold inF
          omega
        refine r_il4 (q := 26) C dX8_lendPart_24 rfl ?_
        refine r_iconst (q := 27) C dX8_lendPart_26 rfl ?_
        refine r_bipush (q := 29) C dX8_lendPart_27 (by decide) rfl ?_
        refine r_callSb (q := 32) C (c_X8_within hu (by omega) (by omega)) m_X8_68 dX8_lendPart_29 rfl rfl (by decide) (by decide) (Nat.le_of_ble_eq_true rfl) (fun br29 => ?_) (fun br29 => ?_)
        · refine r_ifeq_f (q := 47) (q2 := 35) C (by decide) (by omega) dX8_lendPart_32 (by decide) rfl ?_
          refine r_il5 (q := 37) C dX8_lendPart_35 rfl ?_
          refine r_iconst (q := 38) C dX8_lendPart_37 rfl ?_
          refine r_sipush (q := 41) C dX8_lendPart_38 (by decide) rfl ?_
          refine r_callSb (q := 44) C (c_X8_within hd (by omega) (by omega)) m_X8_68 dX8_lendPart_41 rfl rfl (by decide) (by decide) (Nat.le_of_ble_eq_true rfl) (fun br41 => ?_) (fun br41 => ?_)
          · refine r_ifne_t (q := 50) C (by decide) (by omega) dX8_lendPart_44 (by decide) ?_
            rw [if_pos ⟨br29, br41⟩] at hs
            refine r_il4 (q := 52) C dX8_lendPart_50 rfl ?_
            refine r_al0 (q := 53) C dX8_lendPart_52 rfl ?_
            refine r_getR (q := 56) C f_X8_10 dX8_lendPart_53 rfl rfl (by assumption) (by assumption) (by omega) ?_
            refine r_getR (q := 59) C f_X8_107 dX8_lendPart_56 rfl rfl (by assumption) (by assumption) (by omega) ?_
            refine r_il2 (q := 60) C dX8_lendPart_59 rfl ?_
            refine r_aald (q := 61) C (eN) dX8_lendPart_60 rfl (by assumption) (by omega) (by omega) (by omega) (by decide) hEj0 rfl rfl (by decide) (by decide) ?_
            refine r_getR (q := 64) C f_X8_250 dX8_lendPart_61 rfl rfl (by assumption) (by assumption) (by omega) ?_
            refine r_il3 (q := 65) C dX8_lendPart_64 rfl ?_
            refine r_iald (q := 66) C (iN) dX8_lendPart_65 rfl (by assumption) (by omega) (by omega) (by omega) (by decide) ?_
            rw [hin]
            refine r_icle (q := 75) (q2 := 69) C (by omega) (by omega) dX8_lendPart_66 (by decide) rfl (fun br66 => ?_) (fun br66 => ?_)
            · rw [if_neg (by omega)] at hs
              have hrg : ∀ jx, jx < nLn A → o_r (σ (xC + 1 + 84 + jx) 0) ∧ o_r (σ (xC + 1 + 84 + jx) 4) ∧ o_r (σ (xC + 1 + 84 + jx) 6) := fun jx hj => by
                have h1 := hRl jx hj
                have h2 := hI7 jx hj
                obtain ⟨g0, g1, g2, g3, g4, g5, g6, g7⟩ := h1
                rw [g0, g4, g6]
                omega
              have hdy : o_r (σ (xC + 1) 7) := by omega
              have hsf : sumF (fun jx => if σ (xC + 1 + 84 + jx) 0 = z then (if (3 : Int) = 0 then σ (xC + 1 + 84 + jx) 4 else if (3 : Int) = 1 then σ (xC + 1 + 84 + jx) 5 else if (3 : Int) = 2 then σ (xC + 1 + 84 + jx) 7 else if 0 < σ (xC + 1 + 84 + jx) 4 ∧ σ (xC + 1 + 84 + jx) 6 < σ (xC + 1) 7 then 1 else 0) else 0) (nLn A) = owesF A z 3 := sumF_congr (fun j hj => by
                obtain ⟨g0, g1, g2, g3, g4, g5, g6, g7⟩ := hRl j hj
                try simp only
                rw [g0, g4, g5, g6, g7, hR7])
              have how := owes3 (z := z) hIn.2.2.2
              refine r_al0 (q := 76) C dX8_lendPart_75 rfl ?_
              refine r_getR (q := 79) C f_X8_10 dX8_lendPart_76 rfl rfl (by assumption) (by assumption) (by omega) ?_
              refine r_il1 (q := 80) C dX8_lendPart_79 rfl ?_
              refine r_iconst (q := 81) C dX8_lendPart_80 rfl ?_
              refine r_callV1 (q := 84) C (c_X6_sumOfLoans (wx := 3) hXn hR5 hIn.2.2.2 hz (by omega) hrg hdy) m_X8_289 (by assumption) (by omega) dX8_lendPart_81 rfl rfl (by decide) (by decide) (Nat.le_of_ble_eq_true rfl) ?_
              rw [hsf]
              refine r_ifle (q := 93) (q2 := 87) C (by omega) dX8_lendPart_84 (by decide) rfl (fun br84 => ?_) (fun br84 => ?_)
              · rw [if_neg (by omega)] at hs
                refine r_al0 (q := 94) C dX8_lendPart_93 rfl ?_
                refine r_getR (q := 97) C f_X8_10 dX8_lendPart_94 rfl rfl (by assumption) (by assumption) (by omega) ?_
                refine r_getI (q := 100) C f_X8_292 dX8_lendPart_97 rfl rfl (by assumption) (by omega) ?_
                rw [hR5]
                refine r_bipush (q := 102) C dX8_lendPart_100 (by decide) rfl ?_
                refine r_iclt (q := 111) (q2 := 105) C (by omega) (by omega) dX8_lendPart_102 (by decide) rfl (fun br102 => ?_) (fun br102 => ?_)
                · rw [if_neg (by omega), show (A 1).toNat = nLn A from rfl] at hs
                  refine r_al0 (q := 112) C dX8_lendPart_111 rfl ?_
                  refine r_getR (q := 115) C f_X8_10 dX8_lendPart_112 rfl rfl (by assumption) (by assumption) (by omega) ?_
                  refine r_il1 (q := 116) C dX8_lendPart_115 rfl ?_
                  refine r_il2 (q := 117) C dX8_lendPart_116 rfl ?_
                  refine r_il3 (q := 118) C dX8_lendPart_117 rfl ?_
                  refine r_il4 (q := 120) C dX8_lendPart_118 rfl ?_
                  refine r_il5 (q := 122) C dX8_lendPart_120 rfl ?_
                  refine r_callVs (q := 125) C (c_X6_addLoan (eN := eN) (ix := iN) hXn hR5 (by omega) heN6 (by omega)) m_X8_295 (by assumption) (by omega) dX8_lendPart_122 rfl rfl (by decide) (by decide) (Nat.le_of_ble_eq_true rfl) (fun z2 σ2 hσ2 => ?_)
                  refine r_iret C hr dX8_lendPart_125 (by decide) (by decide) ?_
                  obtain ⟨rfl, rfl⟩ := hσ2
                  exact ⟨_, rfl, rfl, by rw [hs]; exact hIn.2.1, by rw [hs]; exact ⟨oHR_lend hR hI heN (by omega) (by omega), fun x h1 h2 => o_lend_ne (by omega) (by omega) (by omega) (by omega), fun k _ => by rw [o_lend_ne (by omega) (by omega) (by omega) (by omega)], by rw [o_lend_ne (by omega) (by omega) (by omega) (by omega)]⟩⟩
                · rw [if_pos (by omega)] at hs
                  refine r_al0 (q := 106) C dX8_lendPart_105 rfl ?_
                  refine r_iconst (q := 107) C dX8_lendPart_106 rfl ?_
                  refine r_callVs (q := 110) C (c_X8_refuse hX) m_X8_120 (by assumption) (by omega) dX8_lendPart_107 rfl rfl (by decide) (by decide) (Nat.le_of_ble_eq_true rfl) (fun z2 σ2 hσ2 => ?_)
                  refine r_iret C hr dX8_lendPart_110 (by decide) (by decide) ?_
                  obtain ⟨rfl, rfl⟩ := hσ2
                  exact ⟨_, rfl, rfl, by rw [hs], by rw [hs]; exact oCh_no hR ⟨hIn.2.2.1, hIn.2.2.2⟩⟩
              · rw [if_pos br84] at hs
                refine r_al0 (q := 88) C dX8_lendPart_87 rfl ?_
                refine r_iconst (q := 89) C dX8_lendPart_88 rfl ?_
                refine r_callVs (q := 92) C (c_X8_refuse hX) m_X8_120 (by assumption) (by omega) dX8_lendPart_89 rfl rfl (by decide) (by decide) (Nat.le_of_ble_eq_true rfl) (fun z2 σ2 hσ2 => ?_)
                refine r_iret C hr dX8_lendPart_92 (by decide) (by decide) ?_
                obtain ⟨rfl, rfl⟩ := hσ2
                exact ⟨_, rfl, rfl, by rw [hs], by rw [hs]; exact oCh_no hR ⟨hIn.2.2.1, hIn.2.2.2⟩⟩
            · rw [if_pos br66] at hs
              refine r_al0 (q := 70) C dX8_lendPart_69 rfl ?_
              refine r_iconst (q := 71) C dX8_lendPart_70 rfl ?_
              refine r_callVs (q := 74) C (c_X8_refuse hX) m_X8_120 (by assumption) (by omega) dX8_lendPart_71 rfl rfl (by decide) (by decide) (Nat.le_of_ble_eq_true rfl) (fun z2 σ2 hσ2 => ?_)
              refine r_iret C hr dX8_lendPart_74 (by decide) (by decide) ?_
              obtain ⟨rfl, rfl⟩ := hσ2
              exact ⟨_, rfl, rfl, by rw [hs], by rw [hs]; exact oCh_no hR ⟨hIn.2.2.1, hIn.2.2.2⟩⟩
          · refine r_ifne_f (q := 50) (q2 := 47) C (by decide) (by omega) dX8_lendPart_44 (by decide) rfl ?_
            refine r_bipush (q := 49) C dX8_lendPart_47 (by decide) rfl ?_
            exact r_iret C hr dX8_lendPart_49 (by decide) (by decide) ⟨_, rfl, rfl, by rw [hs, if_neg (fun hc => br41 hc.2)], by rw [hs, if_neg (fun hc => br41 hc.2)]; exact oCh_rf hR⟩
        · refine r_ifeq_t (q := 47) C (by decide) (by omega) dX8_lendPart_32 (by decide) ?_
          refine r_bipush (q := 49) C dX8_lendPart_47 (by decide) rfl ?_
          exact r_iret C hr dX8_lendPart_49 (by decide) (by decide) ⟨_, rfl, rfl, by rw [hs, if_neg (fun hc => br29 hc.1)], by rw [hs, if_neg (fun hc => br29 hc.1)]; exact oCh_rf hR⟩
      · refine r_ifne_f (q := 24) (q2 := 22) C (by decide) (by omega) dX8_lendPart_19 (by decide) rfl ?_
        refine r_iconst (q := 23) C dX8_lendPart_22 rfl ?_
        exact r_iret C hr dX8_lendPart_23 (by decide) (by decide) ⟨_, rfl, rfl, by rw [fLend, if_neg (fun hc => br16 hc.2.2)], by rw [fLend, if_neg (fun hc => br16 hc.2.2)]; exact oCh_rf hR⟩
    · refine r_ifeq_t (q := 22) C (by decide) (by omega) dX8_lendPart_12 (by decide) ?_
      refine r_iconst (q := 23) C dX8_lendPart_22 rfl ?_
      exact r_iret C hr dX8_lendPart_23 (by decide) (by decide) ⟨_, rfl, rfl, by rw [fLend, if_neg (fun hc => br9 hc.2.1)], by rw [fLend, if_neg (fun hc => br9 hc.2.1)]; exact oCh_rf hR⟩
  · refine r_ifeq_t (q := 22) C (by decide) (by omega) dX8_lendPart_4 (by decide) ?_
    refine r_iconst (q := 23) C dX8_lendPart_22 rfl ?_
    exact r_iret C hr dX8_lendPart_23 (by decide) (by decide) ⟨_, rfl, rfl, by rw [fLend, if_neg (fun hc => br1 hc.1)], by rw [fLend, if_neg (fun hc => br1 hc.1)]; exact oCh_rf hR⟩
set_option maxRecDepth 20000 in
set_option maxHeartbeats 8000000 in
theorem c_X8_bringBack {T : oT} {σ : oM} {xC : Nat} {A : Nat → Int} {Bd : Int} (hX : oX T xC) (hR : oHR σ (xC + 1) A) (hI : oI Bd A) {z v w : Int} (hz : o_r z) (hv : o_r v) (hw : o_r w) : MS yX8_bringBack cX8_bringBack 4 (some FieldType.int) 2 0 0 67 [og xC, oi z, oi v, oi w] T σ (oPs (fun zx σ2 => zx = (fBring A (σ xC 10) z v w).1 ∧ oCh σ σ2 xC (fBring A (σ xC 10) z v w).2.1 (fBring A (σ xC 10) z v w).2.2) T) := by
  have hXc := hX
  obtain ⟨hX0, hXr0, hXr1, hXr2, hXr3, hXr4, hXr5, hXr6, hXn, hXs, hXy, hXq, hXk, hXb, hXbs, hXi, hXT⟩ := hXc
  have hHc := hXn
  obtain ⟨hH0, hH1, hH2, hH3, hH4, hH6, hG1, hG80, hG81, hG82, hG83, hEs, hLs, hHT⟩ := hHc
  have hRc := hR
  obtain ⟨hR0, hR5, hR7, hRw8, hRp, hRl, hRe⟩ := hRc
  have hIn := oI_n hI
  have hIc := hI
  obtain ⟨hI1, hI2, hI3, hI4, hI5, hI6, hI7, hI8, -⟩ := hIc
  refine o_met (by decide +kernel) (Nat.le_of_ble_eq_true rfl) (fun p l ee s m args below meth c G b C hr hn => ?_)
  have C : oCx p s m args meth c G b RX8 cX8_bringBack 4 := C
  show oW p l ee ({ frames := 2, cells := 0, slots := 0, locals := 67 } : Room) s m args below meth c G b 4 0 0 (MQ below (o_Qc G b (oPs (fun zx σ2 => zx = (fBring A (σ xC 10) z v w).1 ∧ oCh σ σ2 xC (fBring A (σ xC 10) z v w).2.1 (fBring A (σ xC 10) z v w).2.2) T)) args s 0 0 (fun q => b ≤ q)) T σ 0 [some (og xC), some (oi z), some (oi v), some (oi w)] []
  refine r_al0 (q := 1) C dX8_bringBack_0 rfl ?_
  refine r_il1 (q := 2) C dX8_bringBack_1 rfl ?_
  refine r_callVb (q := 5) C (c_X8_isLoan hX hR hI (by omega)) m_X8_311 (by assumption) (by omega) dX8_bringBack_2 rfl rfl (by decide) (by decide) (Nat.le_of_ble_eq_true rfl) (fun br2 => ?_) (fun br2 => ?_)
  · refine r_ifne_t (q := 10) C (by decide) (by omega) dX8_bringBack_5 (by decide) ?_
    have hs := fBring.eq_1 A (σ xC 10) z v w
    rw [if_pos br2] at hs
    obtain ⟨lN, rfl, hlN⟩ : ∃ lN : Nat, z = (lN : Int) ∧ lN < nLn A := ⟨z.toNat, by omega, by omega⟩
    rw [Int.toNat_natCast] at hs
    obtain ⟨g0, g1, g2, g3, g4, g5, g6, g7⟩ := hRl lN hlN
    have hIl := hI7 lN hlN
    have hLj0 := (hLs lN (by omega)).1
    have hLj1 := (hLs lN (by omega)).2
    refine r_il2 (q := 11) C dX8_bringBack_10 rfl ?_
    refine r_iconst (q := 12) C dX8_bringBack_11 rfl ?_
    refine r_bipush (q := 14) C dX8_bringBack_12 (by decide) rfl ?_
    refine r_callSb (q := 17) C (c_X8_within hv (by omega) (by omega)) m_X8_68 dX8_bringBack_14 rfl rfl (by decide) (by decide) (Nat.le_of_ble_eq_true rfl) (fun br14 => ?_) (fun br14 => ?_)
    · refine r_ifeq_f (q := 36) (q2 := 20) C (by decide) (by omega) dX8_bringBack_17 (by decide) rfl ?_
      refine r_il3 (q := 21) C dX8_bringBack_20 rfl ?_
      refine r_iconst (q := 22) C dX8_bringBack_21 rfl ?_
      refine r_bipush (q := 24) C dX8_bringBack_22 (by decide) rfl ?_
      refine r_callSb (q := 27) C (c_X8_within hw (by omega) (by omega)) m_X8_68 dX8_bringBack_24 rfl rfl (by decide) (by decide) (Nat.le_of_ble_eq_true rfl) (fun br24 => ?_) (fun br24 => ?_)
      · refine r_ifeq_f (q := 36) (q2 := 30) C (by decide) (by omega) dX8_bringBack_27 (by decide) rfl ?_
        refine r_il2 (q := 31) C dX8_bringBack_30 rfl ?_
        refine r_il3 (q := 32) C dX8_bringBack_31 rfl ?_
        refine r_iadd (q := 33) C dX8_bringBack_32 rfl ?_
        refine r_ifne (q := 39) (q2 := 36) C (by omega) dX8_bringBack_33 (by decide) rfl (fun br33 => ?_) (fun br33 => ?_)
        · rw [if_pos ⟨br14, br24, br33⟩] at hs
          refine r_il2 (q := 40) C dX8_bringBack_39 rfl ?_
          refine r_il3 (q := 41) C dX8_bringBack_40 rfl ?_
          refine r_iadd (q := 42) C dX8_bringBack_41 rfl ?_
          refine r_al0 (q := 43) C dX8_bringBack_42 rfl ?_
          refine r_getR (q := 46) C f_X8_10 dX8_bringBack_43 rfl rfl (by assumption) (by assumption) (by omega) ?_
          refine r_getR (q := 49) C f_X8_314 dX8_bringBack_46 rfl rfl (by assumption) (by assumption) (by omega) ?_
          refine r_il1 (q := 50) C dX8_bringBack_49 rfl ?_
          refine r_aald (q := 51) C (lN) dX8_bringBack_50 rfl (by assumption) (by omega) (by omega) (by omega) (by decide) hLj0 rfl rfl (by decide) (by decide) ?_
          refine r_getI (q := 54) C f_X8_318 dX8_bringBack_51 rfl rfl (by assumption) (by omega) ?_
          rw [g4]
          refine r_icle (q := 63) (q2 := 57) C (by omega) (by omega) dX8_bringBack_54 (by decide) rfl (fun br54 => ?_) (fun br54 => ?_)
          · rw [if_neg (by omega)] at hs
            obtain ⟨eN, heq⟩ : ∃ eN : Nat, A (18 + 8 * lN) = (eN : Int) := ⟨(A (18 + 8 * lN)).toNat, by omega⟩
            obtain ⟨iN, hiq⟩ : ∃ iN : Nat, A (19 + 8 * lN) = (iN : Int) := ⟨(A (19 + 8 * lN)).toNat, by omega⟩
            rw [heq, hiq, Int.toNat_natCast, Int.toNat_natCast] at hs
            have heN : eN < nEd A := by omega
            refine r_al0 (q := 64) C dX8_bringBack_63 rfl ?_
            refine r_getR (q := 67) C f_X8_10 dX8_bringBack_64 rfl rfl (by assumption) (by assumption) (by omega) ?_
            refine r_il1 (q := 68) C dX8_bringBack_67 rfl ?_
            refine r_il2 (q := 69) C dX8_bringBack_68 rfl ?_
            refine r_il3 (q := 70) C dX8_bringBack_69 rfl ?_
            refine r_callVs (q := 73) C (c_X6_takeBack (lN := lN) (eN := eN) (ix := iN) hXn (by omega) (by omega) (by omega) (by rw [g1]; exact heq) (by rw [g2]; exact hiq) (by rw [hR7]; omega) (by rw [g6]; omega)) m_X8_323 (by assumption) (by omega) dX8_bringBack_70 rfl rfl (by decide) (by decide) (Nat.le_of_ble_eq_true rfl) (fun z2 σ2 hσ2 => ?_)
            refine r_iret C hr dX8_bringBack_73 (by decide) (by decide) ?_
            obtain ⟨rfl, rfl⟩ := hσ2
            exact ⟨_, rfl, rfl, by rw [hs, hR7, g6], by rw [hs, hR7, g6]; exact ⟨oHR_brg hR hI hlN heN (by omega), fun x h1 h2 => o_brg_ne (by omega) (by omega) (by omega) (by omega), fun k _ => by rw [o_brg_ne (by omega) (by omega) (by omega) (by omega)], by rw [o_brg_ne (by omega) (by omega) (by omega) (by omega)]⟩⟩
          · rw [if_pos br54] at hs
            refine r_al0 (q := 58) C dX8_bringBack_57 rfl ?_
            refine r_iconst (q := 59) C dX8_bringBack_58 rfl ?_
            refine r_callVs (q := 62) C (c_X8_refuse hX) m_X8_120 (by assumption) (by omega) dX8_bringBack_59 rfl rfl (by decide) (by decide) (Nat.le_of_ble_eq_true rfl) (fun z2 σ2 hσ2 => ?_)
            refine r_iret C hr dX8_bringBack_62 (by decide) (by decide) ?_
            obtain ⟨rfl, rfl⟩ := hσ2
            exact ⟨_, rfl, rfl, by rw [hs], by rw [hs]; exact oCh_no hR ⟨hIn.2.2.1, hIn.2.2.2⟩⟩
        · refine r_bipush (q := 38) C dX8_bringBack_36 (by decide) rfl ?_
          exact r_iret C hr dX8_bringBack_38 (by decide) (by decide) ⟨_, rfl, rfl, by rw [hs, if_neg (fun hc => hc.2.2 br33)], by rw [hs, if_neg (fun hc => hc.2.2 br33)]; exact oCh_rf hR⟩
      · refine r_ifeq_t (q := 36) C (by decide) (by omega) dX8_bringBack_27 (by decide) ?_
        refine r_bipush (q := 38) C dX8_bringBack_36 (by decide) rfl ?_
        exact r_iret C hr dX8_bringBack_38 (by decide) (by decide) ⟨_, rfl, rfl, by rw [hs, if_neg (fun hc => br24 hc.2.1)], by rw [hs, if_neg (fun hc => br24 hc.2.1)]; exact oCh_rf hR⟩
    · refine r_ifeq_t (q := 36) C (by decide) (by omega) dX8_bringBack_17 (by decide) ?_
      refine r_bipush (q := 38) C dX8_bringBack_36 (by decide) rfl ?_
      exact r_iret C hr dX8_bringBack_38 (by decide) (by decide) ⟨_, rfl, rfl, by rw [hs, if_neg (fun hc => br14 hc.1)], by rw [hs, if_neg (fun hc => br14 hc.1)]; exact oCh_rf hR⟩
  · refine r_ifne_f (q := 10) (q2 := 8) C (by decide) (by omega) dX8_bringBack_5 (by decide) rfl ?_
    refine r_iconst (q := 9) C dX8_bringBack_8 rfl ?_
    exact r_iret C hr dX8_bringBack_9 (by decide) (by decide) ⟨_, rfl, rfl, by rw [fBring, if_neg br2], by rw [fBring, if_neg br2]; exact oCh_rf hR⟩
