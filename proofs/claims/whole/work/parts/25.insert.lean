/-- a new bar's numbers -/
def newB (kx : Nat) (ox bt : Int) : Int := if kx = 0 then ox else if kx = 2 then bt else 0
/-- cN bars of bt beats put into edition eN of work wN behind bar hN -/
def insA (A : Nat → Int) (eN hN cN wN : Nat) (bt : Int) : Nat → Int := fun x =>
  if x = 178 + 813 * eN then A x + (cN : Int) else if x = 3 + wN then A x + (cN : Int)
  else if 198 + 813 * eN + 8 * hN ≤ x ∧ x < 198 + 813 * eN + 8 * (hN + cN) then newB ((x - (198 + 813 * eN + 8 * hN)) % 8) (A (3 + wN) + (((x - (198 + 813 * eN + 8 * hN)) / 8 : Nat) : Int) + 1) bt
  else if 198 + 813 * eN + 8 * (hN + cN) ≤ x ∧ x < 198 + 813 * eN + 8 * (nBr A eN + cN) then A (x - 8 * cN) else A x
theorem insA_at {A : Nat → Int} {eN hN cN wN : Nat} {bt : Int} : insA A eN hN cN wN bt (178 + 813 * eN) = A (178 + 813 * eN) + (cN : Int) := if_pos rfl
theorem insA_w {A : Nat → Int} {eN hN cN wN : Nat} {bt : Int} (hw : wN < 4) : insA A eN hN cN wN bt (3 + wN) = A (3 + wN) + (cN : Int) := by
  unfold insA
  rw [if_neg (by omega), if_pos rfl]
theorem insA_ne {A : Nat → Int} {eN hN cN wN x : Nat} {bt : Int} (h : x ≠ 178 + 813 * eN) (hw : x ≠ 3 + wN) (h2 : x < 198 + 813 * eN + 8 * hN ∨ (198 + 813 * eN + 8 * (nBr A eN + cN) ≤ x ∧ hN ≤ nBr A eN)) : insA A eN hN cN wN bt x = A x := by
  unfold insA
  rw [if_neg h, if_neg hw, if_neg (by omega), if_neg (by omega)]
/-- bar jx of the edition behind the insertion -/
theorem insA_bar {A : Nat → Int} {eN hN cN wN jx kx : Nat} {bt : Int} (hw : wN < 4) (h1 : 1 ≤ jx) (h2 : jx ≤ nBr A eN + cN) (hh : hN ≤ nBr A eN) (hk : kx < 8) :
    insA A eN hN cN wN bt (190 + 813 * eN + 8 * jx + kx) = if jx ≤ hN then A (190 + 813 * eN + 8 * jx + kx) else if jx ≤ hN + cN then newB kx (A (3 + wN) + (jx : Int) - (hN : Int)) bt else A (190 + 813 * eN + 8 * (jx - cN) + kx) := by
  by_cases c1 : jx ≤ hN
  · rw [if_pos c1, insA_ne (by omega) (by omega) (by omega)]
  · rw [if_neg c1]
    by_cases c2 : jx ≤ hN + cN
    · rw [if_pos c2]
      unfold insA
      rw [if_neg (by omega), if_neg (by omega), if_pos (by omega)]
      have e1 : (190 + 813 * eN + 8 * jx + kx - (198 + 813 * eN + 8 * hN)) % 8 = kx := by omega
      have e2 : (190 + 813 * eN + 8 * jx + kx - (198 + 813 * eN + 8 * hN)) / 8 = jx - hN - 1 := by omega
      rw [e1, e2]
      congr 1
      omega
    · rw [if_neg c2]
      unfold insA
      rw [if_neg (by omega), if_neg (by omega), if_neg (by omega), if_pos (by omega)]
      congr 1
      omega
theorem insA_nB {A : Nat → Int} {eN hN cN wN : Nat} {bt : Int} (h : ((nBr A eN : Nat) : Int) = A (178 + 813 * eN)) : nBr (insA A eN hN cN wN bt) eN = nBr A eN + cN := by
  have h2 : nBr (insA A eN hN cN wN bt) eN = (A (178 + 813 * eN) + (cN : Int)).toNat := by
    show (insA A eN hN cN wN bt (178 + 813 * eN)).toNat = _
    rw [insA_at]
  omega
theorem insA_out {A : Nat → Int} {eN hN cN wN x : Nat} {bt : Int} (hh : hN ≤ nBr A eN) (hB : nBr A eN + cN ≤ 99) (hx : x ≠ 3 + wN) (h : x < 177 + 813 * eN ∨ 990 + 813 * eN ≤ x) : insA A eN hN cN wN bt x = A x := insA_ne (by omega) hx (by omega)
/-- the same without the greatest origin -/
theorem oHR_ins {σ σ2 : oM} {hC eN hN cN wN : Nat} {A : Nat → Int} {Bd bt : Int} (h : oHR σ hC A) (hI : oI Bd A) (heN : eN < nEd A) (hwN : wN < 4) (hh : hN ≤ nBr A eN) (hB : nBr A eN + cN ≤ 99)
    (h2 : σ2 = o_up (o_fl (o_up (o_mv σ (rowK (hC + 2 + 13 * eN) 4 4) (hN + 1) (hN + 1 + cN) (nBr A eN - hN)) (hC + 2 + 13 * eN) 2 (((nBr A eN : Nat) : Int) + (cN : Int))) (hC + 2 + 13 * eN) (hN + 1) (hN + cN + 1) 0 0 bt (A (3 + wN) + 1)) (hC + 80) wN (A (3 + wN) + (cN : Int))) : oHR σ2 hC (insA A eN hN cN wN bt) := by
  have hn := oI_n hI
  obtain ⟨hIE, hb, hb1, hb9⟩ := oI_b hI heN
  have hnB := insA_nB (hN := hN) (cN := cN) (wN := wN) (bt := bt) hb
  have hnE : nEd (insA A eN hN cN wN bt) = nEd A := by
    unfold nEd
    rw [insA_out hh hB (by omega) (by omega)]
  have hR := oHR_e h heN
  -- the flat row with the origin changed first
  have hW := oHR_upW (wN := wN) (tx := A (3 + wN) + (cN : Int)) h hn.2.2.1 hn.2.2.2 (fun ex he => (oI_b hI he).2.2.2) hwN
  have hne0 : nEd (updF A (3 + wN) (A (3 + wN) + (cN : Int))) = nEd A := by
    unfold nEd
    rw [updF_ne (by omega)]
  have hfx : ∀ x, x ≠ hC + 80 → (x < hC + 2 + 13 * eN ∨ hC + 2 + 13 * eN + 10 ≤ x) → σ2 x = σ x := fun x hx hx2 => by rw [h2, o_up_ne hx, o_fl_ne (by rw [rowK_f]; omega), o_up_ne (by omega), o_mv_ne (by rw [rowK_f]; omega)]
  have hf2 : ∀ x, (x < hC + 2 + 13 * eN ∨ hC + 2 + 13 * eN + 10 ≤ x) → σ2 x = o_up σ (hC + 80) wN (A (3 + wN) + (cN : Int)) x := fun x hx2 => by
    by_cases hx : x = hC + 80
    · subst hx
      funext y
      by_cases hy : y = wN
      · rw [h2, hy, o_up_at, o_up_at]
      · rw [h2, o_up_nj (Or.inr hy), o_up_nj (Or.inr hy), o_fl_ne (by rw [rowK_f]; omega), o_up_ne (by omega), o_mv_ne (by rw [rowK_f]; omega)]
    · rw [hfx x hx hx2, o_up_ne hx]
  have hrow : ∀ rk kx jx, ((rk = kx + 1 ∧ kx < 4) ∨ (rk = kx + 2 ∧ 4 ≤ kx ∧ kx < 8)) → 1 ≤ jx → jx ≤ nBr A eN + cN → σ2 (hC + 2 + 13 * eN + rk) jx = insA A eN hN cN wN bt (190 + 813 * eN + 8 * jx + kx) := fun rk kx jx hk j1 j2 => by
    rw [insA_bar hwN j1 j2 hh (by omega), h2, o_up_ne (by omega)]
    by_cases c1 : jx ≤ hN
    · rw [if_pos c1, o_fl_out (by omega), o_up_ne (by omega), o_mv_out (by omega)]
      exact oHR_r h heN j1 (by omega) hk
    · rw [if_neg c1]
      by_cases c2 : jx ≤ hN + cN
      · rw [if_pos c2, o_fl_in (by rw [rowK_t]; omega) (by omega) (by omega)]
        unfold newV newB
        by_cases k0 : kx = 0
        · rw [if_pos (by omega), if_pos k0]
          omega
        · rw [if_neg (by omega), if_neg k0]
          by_cases k2 : kx = 2
          · rw [if_pos (by omega), if_pos k2]
          · rw [if_neg (by omega), if_neg k2]
      · rw [if_neg c2, o_fl_out (by omega), o_up_ne (by omega), o_mv_in (by rw [rowK_t]; omega) (by omega) (by omega), show hN + 1 + (jx - (hN + 1 + cN)) = jx - cN by omega]
        exact oHR_r h heN (by omega) (by omega) hk
  refine oHR_ed (eN := eN) hW (by rw [hne0]; exact hn.2.2.1) (by show (updF A (3 + wN) (A (3 + wN) + (cN : Int)) 1).toNat ≤ 20; rw [updF_ne (by omega)]; exact hn.2.2.2) (fun ex he => by rw [hne0] at he; show (updF A (3 + wN) (A (3 + wN) + (cN : Int)) (178 + 813 * ex)).toNat ≤ 99; rw [updF_ne (by omega)]; exact (oI_b hI he).2.2.2) (by omega) (fun x _ hx => ?_) (Or.inl (by rw [hnE, hne0])) (fun x g1 g2 g3 => hf2 x (by omega)) ?_ ?_ ?_ ?_
  · by_cases hxw : x = 3 + wN
    · rw [hxw, insA_w hwN, updF_at]
    · rw [insA_out hh hB hxw hx, updF_ne hxw]
  · rw [hfx _ (by omega) (by omega), hnE]
    exact h.1
  · rw [hf2 _ (by omega)]
  · rw [hf2 _ (by omega)]
  · rw [hnB]
    refine ⟨?_, ?_, ?_, fun ix hi => ?_, fun jx j1 j2 => ?_⟩
    · rw [h2, o_up_ne (by omega), o_fl_ne (by rw [rowK_f]; omega), o_up_nj (Or.inr (by decide)), o_mv_ne (by rw [rowK_f]; omega), insA_ne (by omega) (by omega) (by omega)]
      exact hR.1
    · rw [h2, o_up_ne (by omega), o_fl_ne (by rw [rowK_f]; omega), o_up_nj (Or.inr (by decide)), o_mv_ne (by rw [rowK_f]; omega), insA_ne (by omega) (by omega) (by omega), show 177 + 813 * eN + 2 = 179 + 813 * eN by omega]
      exact hR.2.1
    · rw [h2, o_up_ne (by omega), o_fl_ne (by rw [rowK_f]; omega), o_up_at]
      omega
    · obtain ⟨q1, q2, q3⟩ := oHR_c h heN hi
      rw [hfx _ (by omega) (by omega), hfx _ (by omega) (by omega), hfx _ (by omega) (by omega), insA_ne (by omega) (by omega) (by omega), insA_ne (by omega) (by omega) (by omega), insA_ne (by omega) (by omega) (by omega), show 177 + 813 * eN + 3 + 3 * ix = 180 + 813 * eN + 3 * ix by omega, show 177 + 813 * eN + 4 + 3 * ix = 181 + 813 * eN + 3 * ix by omega, show 177 + 813 * eN + 5 + 3 * ix = 182 + 813 * eN + 3 * ix by omega]
      exact ⟨q1, q2, q3⟩
    · refine ⟨?_, ?_, ?_, ?_, fun ix hi => ?_⟩
      · rw [hrow 1 0 jx (by omega) j1 j2]
        congr 1
        omega
      · rw [hrow 2 1 jx (by omega) j1 j2]
        congr 1
        omega
      · rw [hrow 3 2 jx (by omega) j1 j2]
        congr 1
        omega
      · rw [hrow 4 3 jx (by omega) j1 j2]
        congr 1
        omega
      · rw [show hC + 2 + 13 * eN + 6 + ix = hC + 2 + 13 * eN + (6 + ix) by omega, hrow (6 + ix) (4 + ix) jx (by omega) j1 j2]
        congr 1
        omega
theorem oI_ins {Bd bt : Int} {eN hN cN wN : Nat} {A : Nat → Int} (h : oI Bd A) (hBd : Bd ≤ 99999900) (heN : eN < nEd A) (hwk : A (177 + 813 * eN) = (wN : Int)) (hwN : wN < 4) (hh : hN ≤ nBr A eN) (hB : nBr A eN + cN ≤ 99) (hbt : 1 ≤ bt ∧ bt ≤ 9) : oI (Bd + 99) (insA A eN hN cN wN bt) := by
  have hn := oI_n h
  obtain ⟨hIE, hb, hb1, hb9⟩ := oI_b h heN
  have hnB := insA_nB (hN := hN) (cN := cN) (wN := wN) (bt := bt) hb
  have hnE : nEd (insA A eN hN cN wN bt) = nEd A := by
    unfold nEd
    rw [insA_out hh hB (by omega) (by omega)]
  have hO := (h.2.2.2.2.1 wN hwN).1
  have hbar := fun (jx kx : Nat) (j1 : 1 ≤ jx) (j2 : jx ≤ nBr A eN + cN) (hk : kx < 8) => insA_bar (A := A) (eN := eN) (hN := hN) (cN := cN) (wN := wN) (bt := bt) hwN j1 j2 hh hk
  refine oI_ed (eN := eN) h (by omega) (by omega) (by omega) (fun x h1 h2 h3 => insA_out hh hB (by omega) h3) (Or.inl ⟨insA_out hh hB (by omega) (by omega), heN⟩) (fun wx hw => ?_) ?_ ?_
  · by_cases hc : wx = wN
    · rw [hc, insA_w hwN]
      omega
    · rw [insA_out hh hB (by omega) (by omega)]
      have := (h.2.2.2.2.1 wx hw).1
      omega
  · obtain ⟨g0, g1, g2, g3, g4⟩ := hIE
    refine ⟨?_, ?_, ?_, fun ix hi => ?_, fun jx j1 j2 => ?_⟩
    · rw [insA_ne (by omega) (by omega) (by omega)]
      exact g0
    · rw [insA_at]
      omega
    · rw [insA_ne (by omega) (by omega) (by omega)]
      exact g2
    · rw [insA_ne (by omega) (by omega) (by omega), insA_ne (by omega) (by omega) (by omega), insA_ne (by omega) (by omega) (by omega)]
      have := g3 ix hi
      omega
    · rw [hnB] at j2
      have e0 := hbar jx 0 j1 j2 (by omega)
      have e1 := hbar jx 1 j1 j2 (by omega)
      have e2 := hbar jx 2 j1 j2 (by omega)
      have e3 := hbar jx 3 j1 j2 (by omega)
      rw [show 190 + 813 * eN + 8 * jx + 0 = 190 + 813 * eN + 8 * jx by omega, show 190 + 813 * eN + 8 * (jx - cN) + 0 = 190 + 813 * eN + 8 * (jx - cN) by omega] at e0
      rw [show 190 + 813 * eN + 8 * jx + 1 = 191 + 813 * eN + 8 * jx by omega, show 190 + 813 * eN + 8 * (jx - cN) + 1 = 191 + 813 * eN + 8 * (jx - cN) by omega] at e1
      rw [show 190 + 813 * eN + 8 * jx + 2 = 192 + 813 * eN + 8 * jx by omega, show 190 + 813 * eN + 8 * (jx - cN) + 2 = 192 + 813 * eN + 8 * (jx - cN) by omega] at e2
      rw [show 190 + 813 * eN + 8 * jx + 3 = 193 + 813 * eN + 8 * jx by omega, show 190 + 813 * eN + 8 * (jx - cN) + 3 = 193 + 813 * eN + 8 * (jx - cN) by omega] at e3
      rw [e0, e1, e2, e3]
      have e4 : ∀ ix, ix < 4 → insA A eN hN cN wN bt (194 + 813 * eN + 8 * jx + ix) = if jx ≤ hN then A (194 + 813 * eN + 8 * jx + ix) else if jx ≤ hN + cN then 0 else A (194 + 813 * eN + 8 * (jx - cN) + ix) := fun ix hi => by
        have e5 := hbar jx (4 + ix) j1 j2 (by omega)
        rw [show 190 + 813 * eN + 8 * jx + (4 + ix) = 194 + 813 * eN + 8 * jx + ix by omega, show 190 + 813 * eN + 8 * (jx - cN) + (4 + ix) = 194 + 813 * eN + 8 * (jx - cN) + ix by omega] at e5
        rw [e5]
        unfold newB
        rw [if_neg (show ¬ 4 + ix = 0 by omega), if_neg (show ¬ 4 + ix = 2 by omega)]
      by_cases c1 : jx ≤ hN
      · simp only [if_pos c1]
        obtain ⟨q0, q1, q2, q3, q4⟩ := g4 jx j1 (by omega)
        refine ⟨by omega, by omega, q2, q3, fun ix hi => ?_⟩
        rw [e4 ix hi, if_pos c1]
        exact q4 ix hi
      · simp only [if_neg c1]
        by_cases c2 : jx ≤ hN + cN
        · simp only [if_pos c2]
          refine ⟨?_, ?_, ?_, ?_, fun ix hi => ?_⟩
          · show 1 ≤ A (3 + wN) + _ - _ ∧ A (3 + wN) + _ - _ ≤ _
            omega
          · show (0 : Int) ≤ 0 ∧ (0 : Int) ≤ _
            omega
          · exact hbt
          · exact Or.inl rfl
          · rw [e4 ix hi, if_neg c1, if_pos c2]
            omega
        · simp only [if_neg c2]
          obtain ⟨q0, q1, q2, q3, q4⟩ := g4 (jx - cN) (by omega) (by omega)
          refine ⟨by omega, by omega, q2, q3, fun ix hi => ?_⟩
          rw [e4 ix hi, if_neg c1, if_neg c2]
          exact q4 ix hi
  · obtain ⟨pos, hpos⟩ := h.2.2.2.2.2.2.2.2
    have hposE := hpos eN heN
    rw [hwk, Int.toNat_natCast] at hposE
    have horg : ∀ jx, 1 ≤ jx → jx ≤ nBr A eN + cN → insA A eN hN cN wN bt (190 + 813 * eN + 8 * jx) = if jx ≤ hN then A (190 + 813 * eN + 8 * jx) else if jx ≤ hN + cN then A (3 + wN) + (jx : Int) - (hN : Int) else A (190 + 813 * eN + 8 * (jx - cN)) := fun jx j1 j2 => hbar jx 0 j1 j2 (by omega)
    obtain ⟨base, hbase, hbas2⟩ : ∃ base : Int, (∀ jx, 1 ≤ jx → jx ≤ hN → pos (wN : Int) (A (190 + 813 * eN + 8 * jx)) ≤ base) ∧ ∀ jx, hN < jx → jx ≤ nBr A eN → base < pos (wN : Int) (A (190 + 813 * eN + 8 * jx)) := by
      by_cases h0 : hN = 0
      · refine ⟨pos (wN : Int) (A (190 + 813 * eN + 8 * 1)) - 1, fun jx q1 q2 => by omega, fun jx q1 q2 => ?_⟩
        by_cases hj : jx = 1
        · rw [hj]
          omega
        · have := (hposE 1 (by omega) (by omega)).2 jx (by omega) q2
          omega
      · refine ⟨pos (wN : Int) (A (190 + 813 * eN + 8 * hN)), fun jx q1 q2 => ?_, fun jx q1 q2 => (hposE hN (by omega) (by omega)).2 jx q1 q2⟩
        by_cases hj : jx = hN
        · rw [hj]
          exact Int.le_refl _
        · have := (hposE jx q1 (by omega)).2 hN (by omega) (by omega)
          omega
    refine ⟨fun a d => if a = (wN : Int) then (if d ≤ A (3 + wN) then 200 * pos a d else 200 * base + (d - A (3 + wN))) else pos a d, fun ex he jx j1 j2 => ?_⟩
    rw [hnE] at he
    have hw3 := (oI_b h he).1.1
    by_cases hc : ex = eN
    · subst hc
      rw [hnB] at j2
      have e7 : insA A ex hN cN wN bt (177 + 813 * ex) = (wN : Int) := by rw [insA_ne (by omega) (by omega) (by omega), hwk]
      rw [e7, Int.toNat_natCast, insA_w hwN]
      refine ⟨?_, fun kx k1 k2 => ?_⟩
      · rw [horg jx j1 j2]
        by_cases c1 : jx ≤ hN
        · rw [if_pos c1]
          have := (hposE jx j1 (by omega)).1
          omega
        · rw [if_neg c1]
          by_cases c2 : jx ≤ hN + cN
          · rw [if_pos c2]
            omega
          · rw [if_neg c2]
            have := (hposE (jx - cN) (by omega) (by omega)).1
            omega
      · rw [hnB] at k2
        rw [horg jx j1 j2, horg kx (by omega) k2]
        show (if (wN : Int) = (wN : Int) then _ else _) < (if (wN : Int) = (wN : Int) then _ else _)
        rw [if_pos rfl, if_pos rfl]
        by_cases c1 : jx ≤ hN
        · have g1 := hposE jx j1 (by omega)
          have b1 := hbase jx j1 c1
          rw [if_pos c1, if_pos g1.1]
          by_cases d1 : kx ≤ hN
          · have g2 := hposE kx (by omega) (by omega)
            rw [if_pos d1, if_pos g2.1]
            have := g1.2 kx k1 (by omega)
            omega
          · rw [if_neg d1]
            by_cases d2 : kx ≤ hN + cN
            · rw [if_pos d2, if_neg (by omega)]
              omega
            · rw [if_neg d2]
              have g2 := hposE (kx - cN) (by omega) (by omega)
              rw [if_pos g2.1]
              have := g1.2 (kx - cN) (by omega) (by omega)
              omega
        · rw [if_neg c1]
          by_cases c2 : jx ≤ hN + cN
          · rw [if_pos c2, if_neg (show ¬ A (3 + wN) + (jx : Int) - (hN : Int) ≤ A (3 + wN) by omega), if_neg (show ¬ kx ≤ hN by omega)]
            by_cases d2 : kx ≤ hN + cN
            · rw [if_pos d2, if_neg (show ¬ A (3 + wN) + (kx : Int) - (hN : Int) ≤ A (3 + wN) by omega)]
              omega
            · rw [if_neg d2]
              have g2 := hposE (kx - cN) (by omega) (by omega)
              have b2 := hbas2 (kx - cN) (by omega) (by omega)
              rw [if_pos g2.1]
              omega
          · have g1 := hposE (jx - cN) (by omega) (by omega)
            have g2 := hposE (kx - cN) (by omega) (by omega)
            rw [if_neg c2, if_pos g1.1, if_neg (show ¬ kx ≤ hN by omega), if_neg (show ¬ kx ≤ hN + cN by omega), if_pos g2.1]
            have := g1.2 (kx - cN) (by omega) (by omega)
            omega
    · have hb9x := (oI_b h he).2.2.2
      have hex6 : ex < 6 := by omega
      have eB : nBr (insA A eN hN cN wN bt) ex = nBr A ex := by
        unfold nBr
        rw [insA_out hh hB (by omega) (by omega)]
      rw [eB] at j2
      have hp := hpos ex he jx j1 j2
      rw [insA_out hh hB (x := 177 + 813 * ex) (by omega) (by omega), insA_out hh hB (x := 190 + 813 * ex + 8 * jx) (by omega) (by omega)]
      obtain ⟨vN, hvN⟩ : ∃ vN : Nat, A (177 + 813 * ex) = (vN : Int) := ⟨(A (177 + 813 * ex)).toNat, by omega⟩
      rw [hvN, Int.toNat_natCast] at hp
      rw [hvN, Int.toNat_natCast]
      have hgr : A (3 + vN) ≤ insA A eN hN cN wN bt (3 + vN) := by
        by_cases hv : vN = wN
        · rw [hv, insA_w hwN]
          omega
        · rw [insA_out hh hB (by omega) (by omega)]
          exact Int.le_refl _
      refine ⟨by omega, fun kx k1 k2 => ?_⟩
      rw [eB] at k2
      have hpk := hpos ex he kx (by omega) k2
      rw [hvN, Int.toNat_natCast] at hpk
      have hlt := hp.2 kx k1 k2
      rw [insA_out hh hB (x := 190 + 813 * ex + 8 * kx) (by omega) (by omega)]
      show (if (vN : Int) = (wN : Int) then _ else _) < (if (vN : Int) = (wN : Int) then _ else _)
      by_cases hv : (vN : Int) = (wN : Int)
      · have hv2 : vN = wN := by omega
        subst hv2
        rw [if_pos rfl, if_pos rfl, if_pos hp.1, if_pos hpk.1]
        omega
      · rw [if_neg hv, if_neg hv]
        exact hlt
def fIns (A : Nat → Int) (rf z v w u : Int) : Int × (Nat → Int) × Int :=
  if isEdF A z ∧ 0 ≤ v ∧ v ≤ A (178 + 813 * z.toNat) then (if (1 ≤ w ∧ w ≤ 99) ∧ (1 ≤ u ∧ u ≤ 9) then (if 99 < A (178 + 813 * z.toNat) + w then (-4, A, rf) else if 0 < boughtF A z.toNat then (-5, A, 4)
    else (A (178 + 813 * z.toNat) + w, insA A z.toNat v.toNat w.toNat (A (177 + 813 * z.toNat)).toNat u, rf)) else (-2, A, rf))
  else (-1, A, rf)
theorem fIns_I {Bd : Int} {A : Nat → Int} {rf z v w u : Int} (h : oI Bd A) (hBd : Bd ≤ 99999900) : oI (Bd + 99) (fIns A rf z v w u).2.1 := by
  have hJ := oI_grow h (B2 := Bd + 99) (by omega) (by omega)
  unfold fIns
  by_cases h1 : isEdF A z ∧ 0 ≤ v ∧ v ≤ A (178 + 813 * z.toNat)
  · rw [if_pos h1]
    obtain ⟨eN, rfl, g1, g2⟩ := isEd_n h h1.1
    have h12 := h1.2
    obtain ⟨hIE, hb, hb1, hb9⟩ := oI_b h g1
    simp only [Int.toNat_natCast] at h12 ⊢
    split
    · split
      · exact hJ
      · split
        · exact hJ
        · have hw0 := hIE.1
          exact oI_ins h hBd g1 (by omega) (by omega) (by omega) (by omega) (by omega)
    · exact hJ
  · rw [if_neg h1]
    exact hJ
theorem fIns_r {Bd : Int} {A : Nat → Int} {rf z v w u : Int} (h : oI Bd A) : o_r (fIns A rf z v w u).1 := by
  unfold fIns
  by_cases h1 : isEdF A z ∧ 0 ≤ v ∧ v ≤ A (178 + 813 * z.toNat)
  · rw [if_pos h1]
    obtain ⟨eN, rfl, g1, g2⟩ := isEd_n h h1.1
    have hb := oI_b h g1
    simp only [Int.toNat_natCast]
    split
    · split
      · show o_r (-4)
        omega
      · split
        · show o_r (-5)
          omega
        · show o_r (A _ + _)
          omega
    · show o_r (-2)
      omega
  · rw [if_neg h1]
    show o_r (-1)
    omega
set_option maxRecDepth 20000 in
set_option maxHeartbeats 8000000 in
theorem c_X8_insertBars {T : oT} {σ : oM} {xC : Nat} {A : Nat → Int} {Bd : Int} (hX : oX T xC) (hR : oHR σ (xC + 1) A) (hI : oI Bd A) {z v w u : Int} (hz : o_r z) (hv : o_r v) (hw : o_r w) (hu : o_r u) : MS yX8_insertBars cX8_insertBars 6 (some FieldType.int) 3 0 0 78 [og xC, oi z, oi v, oi w, oi u] T σ (oPs (fun zx σ2 => zx = (fIns A (σ xC 10) z v w u).1 ∧ oCh σ σ2 xC (fIns A (σ xC 10) z v w u).2.1 (fIns A (σ xC 10) z v w u).2.2) T) := by
  have hXc := hX
  obtain ⟨hX0, hXr0, hXr1, hXr2, hXr3, hXr4, hXr5, hXr6, hXn, hXs, hXy, hXq, hXk, hXb, hXbs, hXi, hXT⟩ := hXc
  have hHc := hXn
  obtain ⟨hH0, hH1, hH2, hH3, hH4, hH6, hG1, hG80, hG81, hG82, hG83, hEs, hLs, hHT⟩ := hHc
  have hRc := hR
  obtain ⟨hR0, hR5, hR7, hRw8, hRp, hRl, hRe⟩ := hRc
  have hIn := oI_n hI
  have hIc := hI
  obtain ⟨hI1, hI2, hI3, hI4, hI5, hI6, hI7, hI8, -⟩ := hIc
  refine o_met (by decide +kernel) (Nat.le_of_ble_eq_true rfl) (fun p l ee s m args below meth c G b C hr hn => ?_)
  have C : oCx p s m args meth c G b RX8 cX8_insertBars 6 := C
  show oW p l ee ({ frames := 3, cells := 0, slots := 0, locals := 78 } : Room) s m args below meth c G b 6 0 0 (MQ below (o_Qc G b (oPs (fun zx σ2 => zx = (fIns A (σ xC 10) z v w u).1 ∧ oCh σ σ2 xC (fIns A (σ xC 10) z v w u).2.1 (fIns A (σ xC 10) z v w u).2.2) T)) args s 0 0 (fun q => b ≤ q)) T σ 0 [some (og xC), some (oi z), some (oi v), some (oi w), some (oi u), none] []
  refine r_al0 (q := 1) C dX8_insertBars_0 rfl ?_
  refine r_il1 (q := 2) C dX8_insertBars_1 rfl ?_
  refine r_callVb (q := 5) C (c_X8_isEdition hX hR hI (by omega)) m_X8_87 (by assumption) (by omega) dX8_insertBars_2 rfl rfl (by decide) (by decide) (Nat.le_of_ble_eq_true rfl) (fun br2 => ?_) (fun br2 => ?_)
  · refine r_ifeq_f (q := 28) (q2 := 8) C (by decide) (by omega) dX8_insertBars_5 (by decide) rfl ?_
    obtain ⟨eN, rfl, heN, heN6⟩ := isEd_n hI br2
    have hEj0 := (hEs eN (by omega)).1
    have hEd := (hEs eN (by omega)).2
    have hEj1 := hEd.1
    have hRE := oHR_e hR (ex := eN) (by omega)
    have hIE := oI_b hI (ex := eN) (by omega)
    obtain ⟨hRE0, hRE1, hRE2⟩ := hRE
    have hREc : ∀ ix, ix < 6 → _ := fun ix hi => oHR_c hR (ex := eN) (ix := ix) (by omega) hi
    have hREb : ∀ jx, 1 ≤ jx → jx ≤ nBr A eN → _ := fun jx j1 j2 => oHR_b hR (ex := eN) (jx := jx) (by omega) j1 j2
    refine r_il2 (q := 9) C dX8_insertBars_8 rfl ?_
    refine r_iconst (q := 10) C dX8_insertBars_9 rfl ?_
    refine r_al0 (q := 11) C dX8_insertBars_10 rfl ?_
    refine r_getR (q := 14) C f_X8_10 dX8_insertBars_11 rfl rfl (by assumption) (by assumption) (by omega) ?_
    refine r_getR (q := 17) C f_X8_107 dX8_insertBars_14 rfl rfl (by assumption) (by assumption) (by omega) ?_
    refine r_il1 (q := 18) C dX8_insertBars_17 rfl ?_
    refine r_aald (q := 19) C (eN) dX8_insertBars_18 rfl (by assumption) (by omega) (by omega) (by omega) (by decide) hEj0 rfl rfl (by decide) (by decide) ?_
    refine r_getI (q := 22) C f_X8_111 dX8_insertBars_19 rfl rfl (by assumption) (by omega) ?_
    rw [hRE2, hIE.2.1]
    refine r_callSb (q := 25) C (c_X8_within (hi := A (178 + 813 * eN)) hv (by omega) (by omega)) m_X8_68 dX8_insertBars_22 rfl rfl (by decide) (by decide) (Nat.le_of_ble_eq_true rfl) (fun br22 => ?_) (fun br22 => ?_)
    · refine r_ifne_t (q := 30) C (by decide) (by omega) dX8_insertBars_25 (by decide) ?_
      have hs := fIns.eq_1 A (σ xC 10) (eN : Int) v w u
      simp only [Int.toNat_natCast] at hs
      rw [if_pos ⟨br2, br22⟩] at hs
      refine r_il3 (q := 31) C dX8_insertBars_30 rfl ?_
      refine r_iconst (q := 32) C dX8_insertBars_31 rfl ?_
      refine r_bipush (q := 34) C dX8_insertBars_32 (by decide) rfl ?_
      refine r_callSb (q := 37) C (c_X8_within hw (by omega) (by omega)) m_X8_68 dX8_insertBars_34 rfl rfl (by decide) (by decide) (Nat.le_of_ble_eq_true rfl) (fun br34 => ?_) (fun br34 => ?_)
      · refine r_ifeq_f (q := 51) (q2 := 40) C (by decide) (by omega) dX8_insertBars_37 (by decide) rfl ?_
        refine r_il4 (q := 42) C dX8_insertBars_40 rfl ?_
        refine r_iconst (q := 43) C dX8_insertBars_42 rfl ?_
        refine r_bipush (q := 45) C dX8_insertBars_43 (by decide) rfl ?_
        refine r_callSb (q := 48) C (c_X8_within hu (by omega) (by omega)) m_X8_68 dX8_insertBars_45 rfl rfl (by decide) (by decide) (Nat.le_of_ble_eq_true rfl) (fun br45 => ?_) (fun br45 => ?_)
        · refine r_ifne_t (q := 54) C (by decide) (by omega) dX8_insertBars_48 (by decide) ?_
          rw [if_pos ⟨br34, br45⟩] at hs
          obtain ⟨hN, rfl⟩ : ∃ hN : Nat, v = (hN : Int) := ⟨v.toNat, by omega⟩
          obtain ⟨cN, rfl⟩ : ∃ cN : Nat, w = (cN : Int) := ⟨w.toNat, by omega⟩
          obtain ⟨wN, hwn⟩ : ∃ wN : Nat, A (177 + 813 * eN) = (wN : Int) := ⟨(A (177 + 813 * eN)).toNat, by have := hIE.1.1; omega⟩
          have hw4 : wN < 4 := by have := hIE.1.1; omega
          rw [hwn] at hs
          simp only [Int.toNat_natCast] at hs
          have hEdc := hEd
          obtain ⟨hE0, hE3, hE4, hE5, hE6, hE7, hE8, hE9, hE10, hA1, hA2, hA3, hA4, hA5, hRw, hA10, hA11, hA12, hTe⟩ := hEdc
          refine r_al0 (q := 55) C dX8_insertBars_54 rfl ?_
          refine r_getR (q := 58) C f_X8_10 dX8_insertBars_55 rfl rfl (by assumption) (by assumption) (by omega) ?_
          refine r_getR (q := 61) C f_X8_107 dX8_insertBars_58 rfl rfl (by assumption) (by assumption) (by omega) ?_
          refine r_il1 (q := 62) C dX8_insertBars_61 rfl ?_
          refine r_aald (q := 63) C (eN) dX8_insertBars_62 rfl (by assumption) (by omega) (by omega) (by omega) (by decide) hEj0 rfl rfl (by decide) (by decide) ?_
          refine r_as5 (q := 65) C dX8_insertBars_63 rfl (by decide) ?_
          refine r_al5 (q := 67) C dX8_insertBars_65 rfl ?_
          refine r_getI (q := 70) C f_X8_111 dX8_insertBars_67 rfl rfl (by assumption) (by omega) ?_
          rw [hRE2]
          refine r_il3 (q := 71) C dX8_insertBars_70 rfl ?_
          refine r_iadd (q := 72) C dX8_insertBars_71 rfl ?_
          refine r_bipush (q := 74) C dX8_insertBars_72 (by decide) rfl ?_
          refine r_icle (q := 80) (q2 := 77) C (by omega) (by omega) dX8_insertBars_74 (by decide) rfl (fun br74 => ?_) (fun br74 => ?_)
          · refine r_al5 (q := 82) C dX8_insertBars_80 rfl ?_
            refine r_callVb (q := 85) C (c_X4_isBought hEd (fun i hi => by obtain ⟨q1, q2, q3⟩ := hREc i hi; have := hIE.1.2.2.2.1 i hi; rw [q1, q2, q3]; omega)) m_X8_116 (by assumption) (by omega) dX8_insertBars_82 rfl rfl (by decide) (by decide) (Nat.le_of_ble_eq_true rfl) (fun br82 => ?_) (fun br82 => ?_)
            · refine r_ifeq_f (q := 94) (q2 := 88) C (by decide) (by omega) dX8_insertBars_85 (by decide) rfl ?_
              rw [bought_of hR heN] at br82
              rw [if_neg (by omega), if_pos br82] at hs
              refine r_al0 (q := 89) C dX8_insertBars_88 rfl ?_
              refine r_iconst (q := 90) C dX8_insertBars_89 rfl ?_
              refine r_callVs (q := 93) C (c_X8_refuse hX) m_X8_120 (by assumption) (by omega) dX8_insertBars_90 rfl rfl (by decide) (by decide) (Nat.le_of_ble_eq_true rfl) (fun z2 σ2 hσ2 => ?_)
              refine r_iret C hr dX8_insertBars_93 (by decide) (by decide) ?_
              obtain ⟨rfl, rfl⟩ := hσ2
              exact ⟨_, rfl, rfl, by rw [hs], by rw [hs]; exact oCh_no hR ⟨hIn.2.2.1, hIn.2.2.2⟩⟩
            · refine r_ifeq_t (q := 94) C (by decide) (by omega) dX8_insertBars_85 (by decide) ?_
              rw [bought_of hR heN] at br82
              rw [if_neg (by omega), if_neg br82] at hs
              have hgv := (hRw8 wN hw4).1
              refine r_al5 (q := 96) C dX8_insertBars_94 rfl ?_
              refine r_il2 (q := 97) C dX8_insertBars_96 rfl ?_
              refine r_il3 (q := 98) C dX8_insertBars_97 rfl ?_
              refine r_il4 (q := 100) C dX8_insertBars_98 rfl ?_
              refine r_al0 (q := 101) C dX8_insertBars_100 rfl ?_
              refine r_getR (q := 104) C f_X8_10 dX8_insertBars_101 rfl rfl (by assumption) (by assumption) (by omega) ?_
              refine r_getR (q := 107) C f_X8_131 dX8_insertBars_104 rfl rfl (by assumption) (by assumption) (by omega) ?_
              refine r_al5 (q := 109) C dX8_insertBars_107 rfl ?_
              refine r_getI (q := 112) C f_X8_135 dX8_insertBars_109 rfl rfl (by assumption) (by omega) ?_
              rw [hRE0, hwn]
              refine r_iald (q := 113) C (wN) dX8_insertBars_112 rfl (by assumption) (by omega) (by omega) (by omega) (by decide) ?_
              rw [hgv]
              refine r_callVv (q := 116) C (c_X4_addBars (hx := hN) (cx := cN) hEd hRE2 (by omega) (by omega) (by omega)) m_X8_138 (by assumption) (by omega) dX8_insertBars_113 rfl rfl (by decide) (by decide) (Nat.le_of_ble_eq_true rfl) (fun σ2 hσ2 => ?_)
              have hw2 : σ2 (xC + 1 + 2 + 13 * eN) 0 = (wN : Int) := by rw [hσ2, o_fl_ne (by rw [rowK_f]; omega), o_up_nj (Or.inr (by decide)), o_mv_ne (by rw [rowK_f]; omega), hRE0, hwn]
              have hg2 : σ2 (xC + 1 + 80) wN = A (3 + wN) := by rw [hσ2, o_fl_ne (by rw [rowK_f]; omega), o_up_ne (by omega), o_mv_ne (by rw [rowK_f]; omega), hgv]
              refine r_al0 (q := 117) C dX8_insertBars_116 rfl ?_
              refine r_getR (q := 120) C f_X8_10 dX8_insertBars_117 rfl rfl (by assumption) (by assumption) (by omega) ?_
              refine r_getR (q := 123) C f_X8_131 dX8_insertBars_120 rfl rfl (by assumption) (by assumption) (by omega) ?_
              refine r_al5 (q := 125) C dX8_insertBars_123 rfl ?_
              refine r_getI (q := 128) C f_X8_135 dX8_insertBars_125 rfl rfl (by assumption) (by omega) ?_
              rw [hw2]
              refine r_dup2 (q := 129) C dX8_insertBars_128 rfl ?_
              refine r_iald (q := 130) C (wN) dX8_insertBars_129 rfl (by assumption) (by omega) (by omega) (by omega) (by decide) ?_
              rw [hg2]
              refine r_il3 (q := 131) C dX8_insertBars_130 rfl ?_
              refine r_iadd (q := 132) C dX8_insertBars_131 rfl ?_
              refine r_iast (q := 133) C (wN) dX8_insertBars_132 rfl (by assumption) (by omega) (by omega) (by omega) (by decide) ?_
              refine r_al5 (q := 135) C dX8_insertBars_133 rfl ?_
              refine r_getI (q := 138) C f_X8_111 dX8_insertBars_135 rfl rfl (by assumption) (by omega) ?_
              refine r_iret C hr dX8_insertBars_138 (by decide) (by decide) ?_
              refine ⟨_, rfl, rfl, ?_, ?_⟩
              · rw [hs, o_up_ne (by omega), hσ2, o_fl_ne (by rw [rowK_f]; omega), o_up_at]
                show _ = A (178 + 813 * eN) + _
                omega
              · rw [hs]
                exact ⟨oHR_ins hR hI heN hw4 (by omega) (by omega) (by rw [hσ2]), fun x h1 h2 => by rw [o_up_ne (by omega), hσ2, o_fl_ne (by rw [rowK_f]; omega), o_up_ne (by omega), o_mv_ne (by rw [rowK_f]; omega)], fun k _ => by rw [o_up_ne (by omega), hσ2, o_fl_ne (by rw [rowK_f]; omega), o_up_ne (by omega), o_mv_ne (by rw [rowK_f]; omega)], by rw [o_up_ne (by omega), hσ2, o_fl_ne (by rw [rowK_f]; omega), o_up_ne (by omega), o_mv_ne (by rw [rowK_f]; omega)]⟩
          · refine r_bipush (q := 79) C dX8_insertBars_77 (by decide) rfl ?_
            exact r_iret C hr dX8_insertBars_79 (by decide) (by decide) ⟨_, rfl, rfl, by rw [hs, if_pos (by omega)], by rw [hs, if_pos (by omega)]; exact oCh_rf hR⟩
        · refine r_ifne_f (q := 54) (q2 := 51) C (by decide) (by omega) dX8_insertBars_48 (by decide) rfl ?_
          refine r_bipush (q := 53) C dX8_insertBars_51 (by decide) rfl ?_
          exact r_iret C hr dX8_insertBars_53 (by decide) (by decide) ⟨_, rfl, rfl, by rw [hs, if_neg (fun hc => br45 hc.2)], by rw [hs, if_neg (fun hc => br45 hc.2)]; exact oCh_rf hR⟩
      · refine r_ifeq_t (q := 51) C (by decide) (by omega) dX8_insertBars_37 (by decide) ?_
        refine r_bipush (q := 53) C dX8_insertBars_51 (by decide) rfl ?_
        exact r_iret C hr dX8_insertBars_53 (by decide) (by decide) ⟨_, rfl, rfl, by rw [hs, if_neg (fun hc => br34 hc.1)], by rw [hs, if_neg (fun hc => br34 hc.1)]; exact oCh_rf hR⟩
    · refine r_ifne_f (q := 30) (q2 := 28) C (by decide) (by omega) dX8_insertBars_25 (by decide) rfl ?_
      refine r_iconst (q := 29) C dX8_insertBars_28 rfl ?_
      exact r_iret C hr dX8_insertBars_29 (by decide) (by decide) ⟨_, rfl, rfl, by rw [fIns, if_neg (fun hc => br22 (by have h := hc.2; rw [Int.toNat_natCast] at h; exact h))], by rw [fIns, if_neg (fun hc => br22 (by have h := hc.2; rw [Int.toNat_natCast] at h; exact h))]; exact oCh_rf hR⟩
  · refine r_ifeq_t (q := 28) C (by decide) (by omega) dX8_insertBars_5 (by decide) ?_
    refine r_iconst (q := 29) C dX8_insertBars_28 rfl ?_
    exact r_iret C hr dX8_insertBars_29 (by decide) (by decide) ⟨_, rfl, rfl, by rw [fIns, if_neg (fun hc => br2 hc.1)], by rw [fIns, if_neg (fun hc => br2 hc.1)]; exact oCh_rf hR⟩
