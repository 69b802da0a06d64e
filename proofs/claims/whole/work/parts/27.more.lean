/-- one edition more: of work wN, Bn bars of bt beats -/
def edA (A : Nat → Int) (eN wN Bn : Nat) (bt : Int) : Nat → Int := fun x =>
  if x = 0 then A 0 + 1 else if x = 3 + wN then (Bn : Int)
  else if 177 + 813 * eN ≤ x ∧ x < 990 + 813 * eN then
    (if x = 177 + 813 * eN then (wN : Int) else if x = 178 + 813 * eN then (Bn : Int) else if x = 179 + 813 * eN then -7
     else if 198 + 813 * eN ≤ x ∧ x < 198 + 813 * eN + 8 * Bn then newB ((x - (198 + 813 * eN)) % 8) ((((x - (198 + 813 * eN)) / 8 : Nat) : Int) + 1) bt else 0)
  else A x
theorem edA_0 {A : Nat → Int} {eN wN Bn : Nat} {bt : Int} : edA A eN wN Bn bt 0 = A 0 + 1 := if_pos rfl
theorem edA_w {A : Nat → Int} {eN wN Bn : Nat} {bt : Int} : edA A eN wN Bn bt (3 + wN) = (Bn : Int) := by
  unfold edA
  rw [if_neg (by omega), if_pos rfl]
theorem edA_ne {A : Nat → Int} {eN wN Bn x : Nat} {bt : Int} (h0 : x ≠ 0) (h1 : x ≠ 3 + wN) (h2 : x < 177 + 813 * eN ∨ 990 + 813 * eN ≤ x) : edA A eN wN Bn bt x = A x := by
  unfold edA
  rw [if_neg h0, if_neg h1, if_neg (by omega)]
theorem edA_h {A : Nat → Int} {eN wN Bn kx : Nat} {bt : Int} (hw : wN < 4) (hB : Bn ≤ 99) (hk : kx < 21) : edA A eN wN Bn bt (177 + 813 * eN + kx) = if kx = 0 then (wN : Int) else if kx = 1 then (Bn : Int) else if kx = 2 then -7 else 0 := by
  unfold edA
  rw [if_neg (by omega), if_neg (by omega), if_pos (by omega)]
  repeat' split
  all_goals first | rfl | (exfalso; omega)
theorem edA_b {A : Nat → Int} {eN wN Bn jx kx : Nat} {bt : Int} (hw : wN < 4) (hB : Bn ≤ 99) (h1 : 1 ≤ jx) (h2 : jx ≤ Bn) (hk : kx < 8) : edA A eN wN Bn bt (190 + 813 * eN + 8 * jx + kx) = newB kx (jx : Int) bt := by
  unfold edA
  rw [if_neg (by omega), if_neg (by omega), if_pos (by omega), if_neg (by omega), if_neg (by omega), if_neg (by omega), if_pos (by omega)]
  have e1 : (190 + 813 * eN + 8 * jx + kx - (198 + 813 * eN)) % 8 = kx := by omega
  have e2 : (190 + 813 * eN + 8 * jx + kx - (198 + 813 * eN)) / 8 = jx - 1 := by omega
  rw [e1, e2]
  congr 1
  omega
theorem edA_nB {A : Nat → Int} {eN wN Bn : Nat} {bt : Int} (hw : wN < 4) (hB : Bn ≤ 99) : nBr (edA A eN wN Bn bt) eN = Bn := by
  have h2 : nBr (edA A eN wN Bn bt) eN = (edA A eN wN Bn bt (177 + 813 * eN + 1)).toNat := by
    rw [show 177 + 813 * eN + 1 = 178 + 813 * eN by omega]
    rfl
  rw [h2, edA_h hw hB (by omega), if_neg (by decide), if_pos rfl]
  rfl
theorem edA_nE {Bd : Int} {A : Nat → Int} {eN wN Bn : Nat} {bt : Int} (h : oI Bd A) : nEd (edA A eN wN Bn bt) = nEd A + 1 := by
  have hn := oI_n h
  have h0 := h.2.1
  have h2 : nEd (edA A eN wN Bn bt) = (A 0 + 1).toNat := by
    show (edA A eN wN Bn bt 0).toNat = _
    rw [edA_0]
  omega
theorem oHR_edn {σ σ2 : oM} {hC wN Bn : Nat} {A : Nat → Int} {Bd bt : Int} (h : oHR σ hC A) (hI : oI Bd A) (hN6 : nEd A < 6) (hwN : wN < 4) (hB1 : 1 ≤ Bn) (hB : Bn ≤ 99) (hJ : A (7 + wN) = 0)
    (h2 : σ2 = o_up (o_up (o_up (o_clr (o_fl (o_up (o_up (o_up σ (hC + 2 + 13 * nEd A) 0 (wN : Int)) (hC + 2 + 13 * nEd A) 1 (-7)) (hC + 2 + 13 * nEd A) 2 (Bn : Int)) (hC + 2 + 13 * nEd A) 1 (Bn + 1) 0 0 bt 1) (hC + 2 + 13 * nEd A) 6) (hC + 80) wN (Bn : Int)) (hC + 81) wN 0) hC 0 (((nEd A : Nat) : Int) + 1)) : oHR σ2 hC (edA A (nEd A) wN Bn bt) := by
  have hn := oI_n hI
  have hnE := edA_nE (eN := nEd A) (wN := wN) (Bn := Bn) (bt := bt) hI
  have hnB := edA_nB (A := A) (eN := nEd A) (bt := bt) hwN hB
  have hW := oHR_upW (wN := wN) (tx := (Bn : Int)) h hn.2.2.1 hn.2.2.2 (fun ex he => (oI_b hI he).2.2.2) hwN
  have n1 : nEd (updF A (3 + wN) (Bn : Int)) = nEd A := by
    unfold nEd
    rw [updF_ne (by omega)]
  have l1 : nLn (updF A (3 + wN) (Bn : Int)) = nLn A := by
    unfold nLn
    rw [updF_ne (by omega)]
  have b1 : ∀ ex, nBr (updF A (3 + wN) (Bn : Int)) ex = nBr A ex := fun ex => by
    unfold nBr
    rw [updF_ne (by omega)]
  have hV := oHR_upV (wN := wN) (tx := 0) hW (by rw [n1]; exact hn.2.2.1) (by rw [l1]; exact hn.2.2.2) (fun ex he => by rw [n1] at he; rw [b1]; exact (oI_b hI he).2.2.2) hwN
  have n2 : nEd (updF (updF A (3 + wN) (Bn : Int)) (7 + wN) 0) = nEd A := by
    rw [← n1]
    unfold nEd
    rw [updF_ne (by omega)]
  have l2 : nLn (updF (updF A (3 + wN) (Bn : Int)) (7 + wN) 0) = nLn A := by
    rw [← l1]
    unfold nLn
    rw [updF_ne (by omega)]
  have b2 : ∀ ex, nBr (updF (updF A (3 + wN) (Bn : Int)) (7 + wN) 0) ex = nBr A ex := fun ex => by
    rw [← b1 ex]
    unfold nBr
    rw [updF_ne (by omega)]
  have hf2 : ∀ x, x ≠ hC → (x < hC + 2 + 13 * nEd A ∨ hC + 2 + 13 * nEd A + 13 ≤ x) → σ2 x = o_up (o_up σ (hC + 80) wN (Bn : Int)) (hC + 81) wN 0 x := fun x hx hx2 => by
    rw [h2, o_up_ne hx]
    funext y
    unfold o_up
    split
    · rfl
    · split
      · rfl
      · show o_clr (o_fl (o_up (o_up (o_up σ _ 0 _) _ 1 _) _ 2 _) _ 1 _ 0 0 bt 1) _ 6 x y = σ x y
        rw [o_clr_ne (by omega), o_fl_ne (by rw [rowK_f]; omega), o_up_ne (by omega), o_up_ne (by omega), o_up_ne (by omega)]
  have hfe : ∀ x, x ≠ hC → x ≠ hC + 80 → x ≠ hC + 81 → σ2 x = o_clr (o_fl (o_up (o_up (o_up σ (hC + 2 + 13 * nEd A) 0 (wN : Int)) (hC + 2 + 13 * nEd A) 1 (-7)) (hC + 2 + 13 * nEd A) 2 (Bn : Int)) (hC + 2 + 13 * nEd A) 1 (Bn + 1) 0 0 bt 1) (hC + 2 + 13 * nEd A) 6 x := fun x q1 q2 q3 => by rw [h2, o_up_ne q1, o_up_ne q3, o_up_ne q2]
  have hf0 : ∀ kx, kx ≠ 0 → σ2 hC kx = σ hC kx := fun kx hk => by rw [h2, o_up_nj (Or.inr hk), o_up_ne (by omega), o_up_ne (by omega), o_clr_ne (by omega), o_fl_ne (by rw [rowK_f]; omega), o_up_ne (by omega), o_up_ne (by omega), o_up_ne (by omega)]
  have hrow : ∀ rk kx jx, ((rk = kx + 1 ∧ kx < 4) ∨ (rk = kx + 2 ∧ 4 ≤ kx ∧ kx < 8)) → 1 ≤ jx → jx ≤ Bn → σ2 (hC + 2 + 13 * nEd A + rk) jx = edA A (nEd A) wN Bn bt (190 + 813 * nEd A + 8 * jx + kx) := fun rk kx jx hk j1 j2 => by
    rw [edA_b hwN hB j1 j2 (by omega), hfe _ (by omega) (by omega) (by omega), o_clr_ne (by omega), o_fl_in (by rw [rowK_t]; omega) (by omega) (by omega)]
    unfold newV newB
    by_cases k0 : kx = 0
    · rw [if_pos (by omega), if_pos k0]
      omega
    · rw [if_neg (by omega), if_neg k0]
      by_cases k2 : kx = 2
      · rw [if_pos (by omega), if_pos k2]
      · rw [if_neg (by omega), if_neg k2]
  refine oHR_ed (eN := nEd A) hV (by rw [n2]; exact hn.2.2.1) (by rw [l2]; exact hn.2.2.2) (fun ex he => by rw [n2] at he; rw [b2]; exact (oI_b hI he).2.2.2) hN6 (fun x x1 x2 => ?_) (Or.inr ⟨by rw [hnE, n2], n2.symm⟩) (fun x g1 g2 g3 => hf2 x (by omega) (by omega)) ?_ ?_ ?_ ?_
  · by_cases c1 : x = 3 + wN
    · rw [c1, edA_w, updF_ne (by omega), updF_at]
    · by_cases c2 : x = 7 + wN
      · rw [c2, updF_at, edA_ne (by omega) (by omega) (by omega), hJ]
      · rw [edA_ne (by omega) c1 x2, updF_ne c2, updF_ne c1]
  · rw [h2, o_up_at, hnE]
    rfl
  · rw [hf0 5 (by decide), o_up_ne (by omega), o_up_ne (by omega)]
  · rw [hf0 7 (by decide), o_up_ne (by omega), o_up_ne (by omega)]
  · rw [hnB]
    refine ⟨?_, ?_, ?_, fun ix hi => ?_, fun jx j1 j2 => ?_⟩
    · have e0 := edA_h (A := A) (eN := nEd A) (kx := 0) (bt := bt) hwN hB (by omega)
      rw [Nat.add_zero, if_pos rfl] at e0
      rw [e0, hfe _ (by omega) (by omega) (by omega), o_clr_ne (by omega), o_fl_ne (by rw [rowK_f]; omega), o_up_nj (Or.inr (by decide)), o_up_nj (Or.inr (by decide)), o_up_at]
    · rw [edA_h hwN hB (by omega), if_neg (by decide), if_neg (by decide), if_pos rfl, hfe _ (by omega) (by omega) (by omega), o_clr_ne (by omega), o_fl_ne (by rw [rowK_f]; omega), o_up_nj (Or.inr (by decide)), o_up_at]
    · rw [hfe _ (by omega) (by omega) (by omega), o_clr_ne (by omega), o_fl_ne (by rw [rowK_f]; omega), o_up_at]
    · have ez : ∀ kx, 3 ≤ kx → kx < 21 → edA A (nEd A) wN Bn bt (177 + 813 * nEd A + kx) = 0 := fun kx k1 k2 => by rw [edA_h hwN hB k2, if_neg (by omega), if_neg (by omega), if_neg (by omega)]
      have cz : ∀ kx, (kx = 10 ∨ kx = 11 ∨ kx = 12) → σ2 (hC + 2 + 13 * nEd A + kx) ix = 0 := fun kx hk => by
        rw [hfe _ (by omega) (by omega) (by omega)]
        unfold o_clr
        rw [if_pos (by omega)]
      rw [cz 10 (by omega), cz 11 (by omega), cz 12 (by omega), show 177 + 813 * nEd A + 3 + 3 * ix = 177 + 813 * nEd A + (3 + 3 * ix) by omega, show 177 + 813 * nEd A + 4 + 3 * ix = 177 + 813 * nEd A + (4 + 3 * ix) by omega, show 177 + 813 * nEd A + 5 + 3 * ix = 177 + 813 * nEd A + (5 + 3 * ix) by omega, ez _ (by omega) (by omega), ez _ (by omega) (by omega), ez _ (by omega) (by omega)]
      exact ⟨rfl, rfl, rfl⟩
    · refine ⟨?_, ?_, ?_, ?_, fun ix hi => ?_⟩
      · rw [hrow 1 0 jx (by omega) j1 j2]
        congr 1
        omega
      · rw [hrow 2 1 jx (by omega) j1 j2]
        congr 1
        omega
      · rw [hrow 3 2 jx (by omega) j1 j2]
        congr 1
        omega
      · rw [hrow 4 3 jx (by omega) j1 j2]
        congr 1
        omega
      · rw [show hC + 2 + 13 * nEd A + 6 + ix = hC + 2 + 13 * nEd A + (6 + ix) by omega, hrow (6 + ix) (4 + ix) jx (by omega) j1 j2]
        congr 1
        omega
theorem oI_edn {Bd bt : Int} {wN Bn : Nat} {A : Nat → Int} (h : oI Bd A) (hBd : Bd ≤ 99999900) (hN6 : nEd A < 6) (hwN : wN < 4) (hB1 : 1 ≤ Bn) (hB : Bn ≤ 99) (hbt : 1 ≤ bt ∧ bt ≤ 9) (hnw : ∀ ex, ex < nEd A → A (177 + 813 * ex) ≠ (wN : Int)) : oI (Bd + 99) (edA A (nEd A) wN Bn bt) := by
  have hn := oI_n h
  have h1 := h.1
  have hnE := edA_nE (eN := nEd A) (wN := wN) (Bn := Bn) (bt := bt) h
  have hnB := edA_nB (A := A) (eN := nEd A) (bt := bt) hwN hB
  have hh := fun (kx : Nat) (hk : kx < 21) => edA_h (A := A) (eN := nEd A) (kx := kx) (bt := bt) hwN hB hk
  have hb := fun (jx kx : Nat) (j1 : 1 ≤ jx) (j2 : jx ≤ Bn) (hk : kx < 8) => edA_b (A := A) (eN := nEd A) (bt := bt) hwN hB j1 j2 hk
  refine oI_ed (eN := nEd A) h (by omega) (by omega) hN6 (fun x x1 x2 x3 => edA_ne (by omega) (by omega) x3) (Or.inr ⟨edA_0, rfl⟩) (fun wx hw => ?_) ?_ ?_
  · by_cases hc : wx = wN
    · rw [hc, edA_w]
      omega
    · rw [edA_ne (by omega) (by omega) (by omega)]
      have := (h.2.2.2.2.1 wx hw).1
      omega
  · refine ⟨?_, ?_, ?_, fun ix hi => ?_, fun jx j1 j2 => ?_⟩
    · have e0 := hh 0 (by omega)
      rw [Nat.add_zero, if_pos rfl] at e0
      rw [e0]
      omega
    · have e0 := hh 1 (by omega)
      rw [show 177 + 813 * nEd A + 1 = 178 + 813 * nEd A by omega, if_neg (by decide), if_pos rfl] at e0
      rw [e0]
      omega
    · have e0 := hh 2 (by omega)
      rw [show 177 + 813 * nEd A + 2 = 179 + 813 * nEd A by omega, if_neg (by decide), if_neg (by decide), if_pos rfl] at e0
      rw [e0]
      omega
    · have e0 := hh (3 + 3 * ix) (by omega)
      have e1 := hh (4 + 3 * ix) (by omega)
      have e2 := hh (5 + 3 * ix) (by omega)
      rw [show 177 + 813 * nEd A + (3 + 3 * ix) = 180 + 813 * nEd A + 3 * ix by omega, if_neg (by omega), if_neg (by omega), if_neg (by omega)] at e0
      rw [show 177 + 813 * nEd A + (4 + 3 * ix) = 181 + 813 * nEd A + 3 * ix by omega, if_neg (by omega), if_neg (by omega), if_neg (by omega)] at e1
      rw [show 177 + 813 * nEd A + (5 + 3 * ix) = 182 + 813 * nEd A + 3 * ix by omega, if_neg (by omega), if_neg (by omega), if_neg (by omega)] at e2
      rw [e0, e1, e2]
      omega
    · rw [hnB] at j2
      have e0 := hb jx 0 j1 j2 (by omega)
      have e1 := hb jx 1 j1 j2 (by omega)
      have e2 := hb jx 2 j1 j2 (by omega)
      have e3 := hb jx 3 j1 j2 (by omega)
      rw [Nat.add_zero] at e0
      rw [show 190 + 813 * nEd A + 8 * jx + 1 = 191 + 813 * nEd A + 8 * jx by omega] at e1
      rw [show 190 + 813 * nEd A + 8 * jx + 2 = 192 + 813 * nEd A + 8 * jx by omega] at e2
      rw [show 190 + 813 * nEd A + 8 * jx + 3 = 193 + 813 * nEd A + 8 * jx by omega] at e3
      rw [e0, e1, e2, e3]
      refine ⟨?_, ?_, ?_, Or.inl rfl, fun ix hi => ?_⟩
      · show 1 ≤ (jx : Int) ∧ (jx : Int) ≤ _
        omega
      · show (0 : Int) ≤ 0 ∧ (0 : Int) ≤ _
        omega
      · exact hbt
      · have e4 := hb jx (4 + ix) j1 j2 (by omega)
        rw [show 190 + 813 * nEd A + 8 * jx + (4 + ix) = 194 + 813 * nEd A + 8 * jx + ix by omega] at e4
        rw [e4]
        unfold newB
        rw [if_neg (by omega), if_neg (by omega)]
        omega
  · obtain ⟨pos, hpos⟩ := h.2.2.2.2.2.2.2.2
    refine ⟨fun a d => if a = (wN : Int) then d else pos a d, fun ex he jx j1 j2 => ?_⟩
    rw [hnE] at he
    by_cases hc : ex = nEd A
    · subst hc
      rw [hnB] at j2
      have e7 := hh 0 (by omega)
      rw [Nat.add_zero, if_pos rfl] at e7
      have e0 := hb jx 0 j1 j2 (by omega)
      rw [Nat.add_zero] at e0
      rw [e7, e0, Int.toNat_natCast, edA_w]
      refine ⟨by show (jx : Int) ≤ _; omega, fun kx k1 k2 => ?_⟩
      rw [hnB] at k2
      have f0 := hb kx 0 (by omega) k2 (by omega)
      rw [Nat.add_zero] at f0
      rw [f0]
      show (if (wN : Int) = (wN : Int) then _ else _) < (if (wN : Int) = (wN : Int) then _ else _)
      rw [if_pos rfl, if_pos rfl]
      show (jx : Int) < (kx : Int)
      omega
    · have he2 : ex < nEd A := by omega
      have hb9x := (oI_b h he2).2.2.2
      have hw3 := (oI_b h he2).1.1
      have hne := hnw ex he2
      have eB : nBr (edA A (nEd A) wN Bn bt) ex = nBr A ex := by
        unfold nBr
        rw [edA_ne (by omega) (by omega) (by omega)]
      rw [eB] at j2
      have hp := hpos ex he2 jx j1 j2
      rw [edA_ne (x := 177 + 813 * ex) (by omega) (by omega) (by omega), edA_ne (x := 190 + 813 * ex + 8 * jx) (by omega) (by omega) (by omega)]
      rw [edA_ne (x := 3 + (A (177 + 813 * ex)).toNat) (by omega) (by omega) (by omega)]
      refine ⟨hp.1, fun kx k1 k2 => ?_⟩
      rw [eB] at k2
      rw [edA_ne (x := 190 + 813 * ex + 8 * kx) (by omega) (by omega) (by omega)]
      show (if A (177 + 813 * ex) = (wN : Int) then _ else _) < (if A (177 + 813 * ex) = (wN : Int) then _ else _)
      rw [if_neg hne, if_neg hne]
      exact hp.2 kx k1 k2
/-- one edition more: derived from edition kN -/
def drvA (A : Nat → Int) (eN kN : Nat) : Nat → Int := fun x =>
  if x = 0 then A 0 + 1 else if 177 + 813 * eN ≤ x ∧ x < 990 + 813 * eN then
    (if x = 179 + 813 * eN then (kN : Int) else if 180 + 813 * eN ≤ x ∧ x < 198 + 813 * eN then 0 else A (x - 813 * eN + 813 * kN))
  else A x
theorem drvA_0 {A : Nat → Int} {eN kN : Nat} : drvA A eN kN 0 = A 0 + 1 := if_pos rfl
theorem drvA_ne {A : Nat → Int} {eN kN x : Nat} (h0 : x ≠ 0) (h2 : x < 177 + 813 * eN ∨ 990 + 813 * eN ≤ x) : drvA A eN kN x = A x := by
  unfold drvA
  rw [if_neg h0, if_neg (by omega)]
theorem drvA_in {A : Nat → Int} {eN kN kx : Nat} (hk : kx < 813) : drvA A eN kN (177 + 813 * eN + kx) = if kx = 2 then (kN : Int) else if 3 ≤ kx ∧ kx < 21 then 0 else A (177 + 813 * kN + kx) := by
  unfold drvA
  rw [if_neg (by omega), if_pos (by omega)]
  by_cases c1 : kx = 2
  · rw [if_pos (by omega), if_pos c1]
  · rw [if_neg (by omega), if_neg c1]
    by_cases c2 : 3 ≤ kx ∧ kx < 21
    · rw [if_pos (by omega), if_pos c2]
    · rw [if_neg (by omega), if_neg c2]
      congr 1
      omega
theorem drvA_nE {Bd : Int} {A : Nat → Int} {eN kN : Nat} (h : oI Bd A) : nEd (drvA A eN kN) = nEd A + 1 := by
  have hn := oI_n h
  have h0 := h.2.1
  have h2 : nEd (drvA A eN kN) = (A 0 + 1).toNat := by
    show (drvA A eN kN 0).toNat = _
    rw [drvA_0]
  omega
theorem drvA_nB {A : Nat → Int} {eN kN : Nat} : nBr (drvA A eN kN) eN = nBr A kN := by
  have h := drvA_in (A := A) (eN := eN) (kN := kN) (kx := 1) (by omega)
  rw [show 177 + 813 * eN + 1 = 178 + 813 * eN by omega, show 177 + 813 * kN + 1 = 178 + 813 * kN by omega, if_neg (by decide), if_neg (by decide)] at h
  unfold nBr
  rw [h]
theorem oHR_drv {σ σ2 : oM} {hC kN : Nat} {A : Nat → Int} {Bd : Int} (h : oHR σ hC A) (hI : oI Bd A) (hN6 : nEd A < 6) (hk : kN < nEd A)
    (h2 : σ2 = o_up (o_clr (o_up (o_like σ (hC + 2 + 13 * nEd A) (hC + 2 + 13 * kN) (nBr A kN)) (hC + 2 + 13 * nEd A) 1 (kN : Int)) (hC + 2 + 13 * nEd A) 6) hC 0 (((nEd A : Nat) : Int) + 1)) : oHR σ2 hC (drvA A (nEd A) kN) := by
  have hn := oI_n hI
  have hnE := drvA_nE (eN := nEd A) (kN := kN) hI
  have hnB := drvA_nB (A := A) (eN := nEd A) (kN := kN)
  obtain ⟨-, hb, hb1, hb9⟩ := oI_b hI hk
  have hRk := oHR_e h hk
  have hL := o_like_ed (σ := σ) (eC := hC + 2 + 13 * nEd A) (aC := hC + 2 + 13 * kN) (Bn := nBr A kN) (by omega) hRk.2.2
  obtain ⟨l0, l1, l2, l3, l4⟩ := hL
  have hf2 : ∀ x, x ≠ hC → (x < hC + 2 + 13 * nEd A ∨ hC + 2 + 13 * nEd A + 13 ≤ x) → σ2 x = σ x := fun x hx hx2 => by rw [h2, o_up_ne hx, o_clr_ne (by omega), o_up_ne (by omega), o_like_ne (by omega)]
  have hf0 : ∀ kx, kx ≠ 0 → σ2 hC kx = σ hC kx := fun kx hk => by rw [h2, o_up_nj (Or.inr hk), o_clr_ne (by omega), o_up_ne (by omega), o_like_ne (by omega)]
  have hfe : ∀ x, x ≠ hC → x ≠ hC + 2 + 13 * nEd A → (x < hC + 2 + 13 * nEd A + 10) → σ2 x = o_like σ (hC + 2 + 13 * nEd A) (hC + 2 + 13 * kN) (nBr A kN) x := fun x q1 q2 q3 => by rw [h2, o_up_ne q1, o_clr_ne (by omega), o_up_ne (by omega)]
  have hrow : ∀ rk kx jx, ((rk = kx + 1 ∧ kx < 4) ∨ (rk = kx + 2 ∧ 4 ≤ kx ∧ kx < 8)) → 1 ≤ jx → jx ≤ nBr A kN → σ2 (hC + 2 + 13 * nEd A + rk) jx = drvA A (nEd A) kN (177 + 813 * nEd A + (13 + 8 * jx + kx)) := fun rk kx jx hk2 j1 j2 => by
    rw [drvA_in (by omega), if_neg (by omega), if_neg (by omega), hfe _ (by omega) (by omega) (by omega), l3 jx j1 (by rw [hRk.2.2]; omega) rk (by omega), show 177 + 813 * kN + (13 + 8 * jx + kx) = 190 + 813 * kN + 8 * jx + kx by omega]
    exact oHR_r h hk j1 j2 hk2
  refine oHR_ed (eN := nEd A) h hn.2.2.1 hn.2.2.2 (fun ex he => (oI_b hI he).2.2.2) hN6 (fun x x1 x2 => drvA_ne (by omega) x2) (Or.inr ⟨hnE, rfl⟩) (fun x g1 g2 g3 => hf2 x (by omega) (by omega)) ?_ ?_ ?_ ?_
  · rw [h2, o_up_at, hnE]
    rfl
  · exact hf0 5 (by decide)
  · exact hf0 7 (by decide)
  · rw [hnB]
    refine ⟨?_, ?_, ?_, fun ix hi => ?_, fun jx j1 j2 => ?_⟩
    · have e0 := drvA_in (A := A) (eN := nEd A) (kN := kN) (kx := 0) (by omega)
      rw [Nat.add_zero, Nat.add_zero, if_neg (by decide), if_neg (by decide)] at e0
      rw [e0, h2, o_up_ne (by omega), o_clr_ne (by omega), o_up_nj (Or.inr (by decide)), l0]
      exact hRk.1
    · rw [drvA_in (by omega), if_pos rfl, h2, o_up_ne (by omega), o_clr_ne (by omega), o_up_at]
    · rw [h2, o_up_ne (by omega), o_clr_ne (by omega), o_up_nj (Or.inr (by decide)), l2]
      exact hRk.2.2
    · have ez : ∀ kx, 3 ≤ kx → kx < 21 → drvA A (nEd A) kN (177 + 813 * nEd A + kx) = 0 := fun kx k1 k2 => by rw [drvA_in (by omega), if_neg (by omega), if_pos ⟨k1, k2⟩]
      have cz : ∀ kx, (kx = 10 ∨ kx = 11 ∨ kx = 12) → σ2 (hC + 2 + 13 * nEd A + kx) ix = 0 := fun kx hk => by
        rw [h2, o_up_ne (by omega)]
        unfold o_clr
        rw [if_pos (by omega)]
      rw [cz 10 (by omega), cz 11 (by omega), cz 12 (by omega), show 177 + 813 * nEd A + 3 + 3 * ix = 177 + 813 * nEd A + (3 + 3 * ix) by omega, show 177 + 813 * nEd A + 4 + 3 * ix = 177 + 813 * nEd A + (4 + 3 * ix) by omega, show 177 + 813 * nEd A + 5 + 3 * ix = 177 + 813 * nEd A + (5 + 3 * ix) by omega, ez _ (by omega) (by omega), ez _ (by omega) (by omega), ez _ (by omega) (by omega)]
      exact ⟨rfl, rfl, rfl⟩
    · refine ⟨?_, ?_, ?_, ?_, fun ix hi => ?_⟩
      · rw [hrow 1 0 jx (by omega) j1 j2]
        congr 1
        omega
      · rw [hrow 2 1 jx (by omega) j1 j2]
        congr 1
        omega
      · rw [hrow 3 2 jx (by omega) j1 j2]
        congr 1
        omega
      · rw [hrow 4 3 jx (by omega) j1 j2]
        congr 1
        omega
      · rw [show hC + 2 + 13 * nEd A + 6 + ix = hC + 2 + 13 * nEd A + (6 + ix) by omega, hrow (6 + ix) (4 + ix) jx (by omega) j1 j2]
        congr 1
        omega
theorem oI_drv {Bd : Int} {kN : Nat} {A : Nat → Int} (h : oI Bd A) (hN6 : nEd A < 6) (hk : kN < nEd A) : oI Bd (drvA A (nEd A) kN) := by
  have hn := oI_n h
  have h1 := h.1
  have hnE := drvA_nE (eN := nEd A) (kN := kN) h
  have hnB := drvA_nB (A := A) (eN := nEd A) (kN := kN)
  obtain ⟨hIE, hb, hb1, hb9⟩ := oI_b h hk
  have hh := fun (kx : Nat) (hk : kx < 813) => drvA_in (A := A) (eN := nEd A) (kN := kN) hk
  have h7 : drvA A (nEd A) kN (177 + 813 * nEd A) = A (177 + 813 * kN) := by
    have e0 := hh 0 (by omega)
    rw [Nat.add_zero, Nat.add_zero, if_neg (by decide), if_neg (by decide)] at e0
    exact e0
  have hbr : ∀ jx kx, 1 ≤ jx → jx ≤ 99 → kx < 8 → drvA A (nEd A) kN (190 + 813 * nEd A + 8 * jx + kx) = A (190 + 813 * kN + 8 * jx + kx) := fun jx kx j1 j2 k1 => by
    rw [show 190 + 813 * nEd A + 8 * jx + kx = 177 + 813 * nEd A + (13 + 8 * jx + kx) by omega, hh _ (by omega), if_neg (by omega), if_neg (by omega), show 177 + 813 * kN + (13 + 8 * jx + kx) = 190 + 813 * kN + 8 * jx + kx by omega]
  refine oI_ed (eN := nEd A) h (by omega) (by omega) hN6 (fun x x1 x2 x3 => drvA_ne (by omega) x3) (Or.inr ⟨drvA_0, rfl⟩) (fun wx hw => ?_) ?_ ?_
  · rw [drvA_ne (by omega) (by omega)]
    exact (h.2.2.2.2.1 wx hw).1
  · obtain ⟨g0, g1, g2, g3, g4⟩ := hIE
    refine ⟨?_, ?_, ?_, fun ix hi => ?_, fun jx j1 j2 => ?_⟩
    · rw [h7]
      exact g0
    · have e0 := hh 1 (by omega)
      rw [show 177 + 813 * nEd A + 1 = 178 + 813 * nEd A by omega, show 177 + 813 * kN + 1 = 178 + 813 * kN by omega, if_neg (by decide), if_neg (by decide)] at e0
      rw [e0]
      exact g1
    · have e0 := hh 2 (by omega)
      rw [show 177 + 813 * nEd A + 2 = 179 + 813 * nEd A by omega, if_pos rfl] at e0
      rw [e0]
      omega
    · have e0 := hh (3 + 3 * ix) (by omega)
      have e1 := hh (4 + 3 * ix) (by omega)
      have e2 := hh (5 + 3 * ix) (by omega)
      rw [show 177 + 813 * nEd A + (3 + 3 * ix) = 180 + 813 * nEd A + 3 * ix by omega, if_neg (by omega), if_pos (by omega)] at e0
      rw [show 177 + 813 * nEd A + (4 + 3 * ix) = 181 + 813 * nEd A + 3 * ix by omega, if_neg (by omega), if_pos (by omega)] at e1
      rw [show 177 + 813 * nEd A + (5 + 3 * ix) = 182 + 813 * nEd A + 3 * ix by omega, if_neg (by omega), if_pos (by omega)] at e2
      rw [e0, e1, e2]
      omega
    · rw [hnB] at j2
      obtain ⟨q0, q1, q2, q3, q4⟩ := g4 jx j1 j2
      have e0 := hbr jx 0 j1 (by omega) (by omega)
      have e1 := hbr jx 1 j1 (by omega) (by omega)
      have e2 := hbr jx 2 j1 (by omega) (by omega)
      have e3 := hbr jx 3 j1 (by omega) (by omega)
      rw [Nat.add_zero, Nat.add_zero] at e0
      rw [show 190 + 813 * nEd A + 8 * jx + 1 = 191 + 813 * nEd A + 8 * jx by omega, show 190 + 813 * kN + 8 * jx + 1 = 191 + 813 * kN + 8 * jx by omega] at e1
      rw [show 190 + 813 * nEd A + 8 * jx + 2 = 192 + 813 * nEd A + 8 * jx by omega, show 190 + 813 * kN + 8 * jx + 2 = 192 + 813 * kN + 8 * jx by omega] at e2
      rw [show 190 + 813 * nEd A + 8 * jx + 3 = 193 + 813 * nEd A + 8 * jx by omega, show 190 + 813 * kN + 8 * jx + 3 = 193 + 813 * kN + 8 * jx by omega] at e3
      rw [e0, e1, e2, e3]
      refine ⟨q0, q1, q2, q3, fun ix hi => ?_⟩
      have e4 := hbr jx (4 + ix) j1 (by omega) (by omega)
      rw [show 190 + 813 * nEd A + 8 * jx + (4 + ix) = 194 + 813 * nEd A + 8 * jx + ix by omega, show 190 + 813 * kN + 8 * jx + (4 + ix) = 194 + 813 * kN + 8 * jx + ix by omega] at e4
      rw [e4]
      exact q4 ix hi
  · obtain ⟨pos, hpos⟩ := h.2.2.2.2.2.2.2.2
    refine ⟨pos, fun ex he jx j1 j2 => ?_⟩
    rw [hnE] at he
    by_cases hc : ex = nEd A
    · subst hc
      rw [hnB] at j2
      have hw3 := hIE.1
      have hp := hpos kN hk jx j1 j2
      have e0 := hbr jx 0 j1 (by omega) (by omega)
      rw [Nat.add_zero, Nat.add_zero] at e0
      rw [h7, e0, drvA_ne (by omega) (by omega)]
      refine ⟨hp.1, fun kx k1 k2 => ?_⟩
      rw [hnB] at k2
      have f0 := hbr kx 0 (by omega) (by omega) (by omega)
      rw [Nat.add_zero, Nat.add_zero] at f0
      rw [f0]
      exact hp.2 kx k1 k2
    · have he2 : ex < nEd A := by omega
      have hb9x := (oI_b h he2).2.2.2
      have hw3 := (oI_b h he2).1.1
      have eB : nBr (drvA A (nEd A) kN) ex = nBr A ex := by
        unfold nBr
        rw [drvA_ne (by omega) (by omega)]
      rw [eB] at j2
      have hp := hpos ex he2 jx j1 j2
      rw [drvA_ne (x := 177 + 813 * ex) (by omega) (by omega), drvA_ne (x := 190 + 813 * ex + 8 * jx) (by omega) (by omega), drvA_ne (x := 3 + (A (177 + 813 * ex)).toNat) (by omega) (by omega)]
      refine ⟨hp.1, fun kx k1 k2 => ?_⟩
      rw [eB] at k2
      rw [drvA_ne (by omega) (by omega)]
      exact hp.2 kx k1 k2
/-- a work without an edition has no version yet -/
def oJ (A : Nat → Int) : Prop := ∀ wx : Nat, wx < 4 → (∀ ex, ex < nEd A → A (177 + 813 * ex) ≠ (wx : Int)) → A (7 + wx) = 0
theorem oJ_same {A A2 : Nat → Int} (h : oJ A) (hn : nEd A2 = nEd A) (he : ∀ ex, ex < nEd A → A2 (177 + 813 * ex) = A (177 + 813 * ex)) (hv : ∀ wx : Nat, wx < 4 → A2 (7 + wx) = A (7 + wx)) : oJ A2 := fun wx hw hc => by
  rw [hv wx hw]
  exact h wx hw (fun ex hx => by rw [← he ex hx]; exact hc ex (by rw [hn]; exact hx))
