/-! editions, bowings copied and loans of all parts -/
def fEdition (A : Nat → Int) (Lh : List (Nat → Int)) (z v w : Int) : Int × (Nat → Int) × List (Nat → Int) :=
  if 0 ≤ z ∧ z ≤ 3 then (if (1 ≤ v ∧ v ≤ 99) ∧ (1 ≤ w ∧ w ≤ 9) then (if ∃ ex, ex < nEd A ∧ A (177 + 813 * ex) = z then (-3, A, Lh) else if 6 ≤ A 0 then (-4, A, Lh)
    else (A 0, edA A (nEd A) z.toNat v.toNat w, hpush Lh A)) else (-2, A, Lh)) else (-1, A, Lh)
def fDerive (A : Nat → Int) (Lh : List (Nat → Int)) (z : Int) : Int × (Nat → Int) × List (Nat → Int) :=
  if isEdF A z then (if 6 ≤ A 0 then (-4, A, Lh) else (A 0, drvA A (nEd A) z.toNat, hpush Lh A)) else (-1, A, Lh)
/-- what copying bowings comes to, from edition fN to tN -/
def cpAll (A : Nat → Int) (fN tN iN : Nat) (rp : Int) : oCpS := cpS (fun j => A (194 + 813 * fN + 8 * j + iN)) (fun j => A (190 + 813 * fN + 8 * j)) (fun j => A (191 + 813 * fN + 8 * j)) (fun j => A (190 + 813 * tN + 8 * j)) (fun j => A (191 + 813 * tN + 8 * j)) (nBr A tN) rp (fun j => A (194 + 813 * tN + 8 * j + iN)) (nBr A fN)
/-- row iN of edition tN's bowings made gx -/
def rowA (A : Nat → Int) (tN iN : Nat) (gx : Nat → Int) : Nat → Int := fun x => if 202 + 813 * tN + iN ≤ x ∧ x < 202 + 813 * tN + iN + 8 * nBr A tN ∧ (x - (202 + 813 * tN + iN)) % 8 = 0 then gx ((x - (194 + 813 * tN + iN)) / 8) else A x
abbrev oTold : Type := Int × Int × Int × Int
def fCopyB (A : Nat → Int) (Lh : List (Nat → Int)) (tl : oTold) (z v w u : Int) : Int × (Nat → Int) × List (Nat → Int) × oTold :=
  if isEdF A z ∧ isEdF A v ∧ (0 ≤ w ∧ w ≤ 3) then (if z ≠ v ∧ A (177 + 813 * z.toNat) = A (177 + 813 * v.toNat) ∧ (0 ≤ u ∧ u ≤ 1) then ((cpAll A z.toNat v.toNat w.toNat u).1.1, rowA A v.toNat w.toNat (cpAll A z.toNat v.toNat w.toNat u).2, hpush Lh A, (cpAll A z.toNat v.toNat w.toNat u).1)
    else (-2, A, Lh, tl)) else (-1, A, Lh, tl)
theorem rowA_ne {A : Nat → Int} {tN iN x : Nat} {gx : Nat → Int} (h : x < 202 + 813 * tN + iN ∨ 202 + 813 * tN + iN + 8 * nBr A tN ≤ x ∨ (x - (202 + 813 * tN + iN)) % 8 ≠ 0) : rowA A tN iN gx x = A x := by
  unfold rowA
  rw [if_neg (by omega)]
theorem rowA_b {A : Nat → Int} {tN iN jx kx : Nat} {gx : Nat → Int} (hi : iN < 4) (h1 : 1 ≤ jx) (h2 : jx ≤ nBr A tN) (hk : kx < 8) : rowA A tN iN gx (190 + 813 * tN + 8 * jx + kx) = if kx = 4 + iN then gx jx else A (190 + 813 * tN + 8 * jx + kx) := by
  by_cases hc : kx = 4 + iN
  · rw [if_pos hc]
    unfold rowA
    rw [if_pos (by omega), show (190 + 813 * tN + 8 * jx + kx - (194 + 813 * tN + iN)) / 8 = jx by omega]
  · rw [if_neg hc, rowA_ne (by omega)]
theorem rowA_out {A : Nat → Int} {tN iN x : Nat} {gx : Nat → Int} (hi : iN < 4) (hB : nBr A tN ≤ 99) (h : x < 198 + 813 * tN ∨ 990 + 813 * tN ≤ x) : rowA A tN iN gx x = A x := rowA_ne (by omega)
theorem rowA_nB {A : Nat → Int} {tN iN : Nat} {gx : Nat → Int} : nBr (rowA A tN iN gx) tN = nBr A tN := by
  unfold nBr
  rw [rowA_ne (by omega)]
theorem cpS_congr {fb o1 v1 o2 v2 t0x gb p1 w1 p2 w2 s0x : Nat → Int} {B2 : Nat} {rp : Int} (h2 : ∀ j, 1 ≤ j → j ≤ B2 → o2 j = p2 j ∧ v2 j = w2 j ∧ t0x j = s0x j) : ∀ n, (∀ j, 1 ≤ j → j ≤ n → fb j = gb j ∧ o1 j = p1 j ∧ v1 j = w1 j) → (cpS fb o1 v1 o2 v2 B2 rp t0x n).1 = (cpS gb p1 w1 p2 w2 B2 rp s0x n).1 ∧ ∀ j, 1 ≤ j → j ≤ B2 → (cpS fb o1 v1 o2 v2 B2 rp t0x n).2 j = (cpS gb p1 w1 p2 w2 B2 rp s0x n).2 j
  | 0, _ => ⟨rfl, fun j j1 j2 => (h2 j j1 j2).2.2⟩
  | n + 1, h => by
    obtain ⟨q1, q2⟩ := cpS_congr h2 n (fun j j1 j2 => h j j1 (by omega))
    obtain ⟨r1, r2, r3⟩ := h (n + 1) (by omega) (by omega)
    have e1 : fstAt p2 (p1 (n + 1)) B2 1 = fstAt o2 (o1 (n + 1)) B2 1 := by
      rw [r2]
      exact fstAt_congr (fun i i1 i2 => ((h2 i i1 (by omega)).1).symm)
    unfold cpS
    rw [← r1, e1]
    by_cases h0 : fb (n + 1) = 0
    · rw [if_pos h0, if_pos h0]
      exact ⟨q1, q2⟩
    · rw [if_neg h0, if_neg h0, ← r3]
      rcases fstAt_spec (f := o2) (v := o1 (n + 1)) (n := B2) (j := 1) (by omega) with ⟨s1, -⟩ | ⟨s1, s2, -, -⟩
      · rw [s1]
        unfold cpStep
        rw [if_pos rfl, if_pos rfl, q1]
        exact ⟨rfl, q2⟩
      · generalize fstAt o2 (o1 (n + 1)) B2 1 = th at s1 s2 ⊢
        have t1 := q2 th s1 (by omega)
        rw [← (h2 th s1 (by omega)).2.1]
        unfold cpStep
        rw [if_neg (show ¬ th = 0 by omega), if_neg (show ¬ th = 0 by omega), t1, q1]
        by_cases c1 : (cpS gb p1 w1 p2 w2 B2 rp s0x n).2 th = fb (n + 1)
        · rw [if_pos c1, if_pos c1]
          exact ⟨q1, q2⟩
        · rw [if_neg c1, if_neg c1]
          by_cases c2 : (cpS gb p1 w1 p2 w2 B2 rp s0x n).2 th ≠ 0 ∧ rp = 0
          · rw [if_pos c2, if_pos c2]
            exact ⟨rfl, q2⟩
          · rw [if_neg c2, if_neg c2]
            refine ⟨rfl, fun j j1 j2 => ?_⟩
            show updF _ th _ j = updF _ th _ j
            unfold updF
            split
            · rfl
            · exact q2 j j1 j2
theorem oHR_row {σ σ2 : oM} {hC tN iN : Nat} {A : Nat → Int} {Bd : Int} {gx : Nat → Int} (h : oHR σ hC A) (hI : oI Bd A) (ht : tN < nEd A) (hi : iN < 4) (hs : ∀ x, hC ≤ x → x < hC + 104 → x ≠ hC + 2 + 13 * tN + 6 + iN → σ2 x = σ x) (hg : ∀ jx, 1 ≤ jx → jx ≤ nBr A tN → σ2 (hC + 2 + 13 * tN + 6 + iN) jx = gx jx) : oHR σ2 hC (rowA A tN iN gx) := by
  have hn := oI_n hI
  obtain ⟨hIE, hb, hb1, hb9⟩ := oI_b hI ht
  have hnE : nEd (rowA A tN iN gx) = nEd A := by
    unfold nEd
    rw [rowA_out hi hb9 (by omega)]
  have hR := oHR_e h ht
  have hrow : ∀ rk kx jx, ((rk = kx + 1 ∧ kx < 4) ∨ (rk = kx + 2 ∧ 4 ≤ kx ∧ kx < 8)) → 1 ≤ jx → jx ≤ nBr A tN → σ2 (hC + 2 + 13 * tN + rk) jx = rowA A tN iN gx (190 + 813 * tN + 8 * jx + kx) := fun rk kx jx hk j1 j2 => by
    rw [rowA_b hi j1 j2 (by omega)]
    by_cases hc : kx = 4 + iN
    · rw [if_pos hc, show hC + 2 + 13 * tN + rk = hC + 2 + 13 * tN + 6 + iN by omega]
      exact hg jx j1 j2
    · rw [if_neg hc, hs _ (by omega) (by omega) (by omega)]
      exact oHR_r h ht j1 j2 hk
  refine oHR_ed (eN := tN) h hn.2.2.1 hn.2.2.2 (fun ex he => (oI_b hI he).2.2.2) (by omega) (fun x x1 x2 => rowA_out hi hb9 (by omega)) (Or.inl hnE) (fun x g1 g2 g3 => hs x (by omega) (by omega) (by omega)) ?_ ?_ ?_ ?_
  · rw [hs _ (by omega) (by omega) (by omega), hnE]
    exact h.1
  · rw [hs _ (by omega) (by omega) (by omega)]
  · rw [hs _ (by omega) (by omega) (by omega)]
  · rw [rowA_nB]
    refine ⟨?_, ?_, ?_, fun ix hx => ?_, fun jx j1 j2 => ?_⟩
    · rw [hs _ (by omega) (by omega) (by omega), rowA_ne (by omega)]
      exact hR.1
    · rw [hs _ (by omega) (by omega) (by omega), rowA_ne (by omega), show 177 + 813 * tN + 2 = 179 + 813 * tN by omega]
      exact hR.2.1
    · rw [hs _ (by omega) (by omega) (by omega)]
      exact hR.2.2
    · obtain ⟨q1, q2, q3⟩ := oHR_c h ht hx
      rw [hs _ (by omega) (by omega) (by omega), hs _ (by omega) (by omega) (by omega), hs _ (by omega) (by omega) (by omega), rowA_ne (by omega), rowA_ne (by omega), rowA_ne (by omega), show 177 + 813 * tN + 3 + 3 * ix = 180 + 813 * tN + 3 * ix by omega, show 177 + 813 * tN + 4 + 3 * ix = 181 + 813 * tN + 3 * ix by omega, show 177 + 813 * tN + 5 + 3 * ix = 182 + 813 * tN + 3 * ix by omega]
      exact ⟨q1, q2, q3⟩
    · refine ⟨?_, ?_, ?_, ?_, fun ix hx => ?_⟩
      · rw [hrow 1 0 jx (by omega) j1 j2]
        congr 1
        omega
      · rw [hrow 2 1 jx (by omega) j1 j2]
        congr 1
        omega
      · rw [hrow 3 2 jx (by omega) j1 j2]
        congr 1
        omega
      · rw [hrow 4 3 jx (by omega) j1 j2]
        congr 1
        omega
      · rw [show hC + 2 + 13 * tN + 6 + ix = hC + 2 + 13 * tN + (6 + ix) by omega, hrow (6 + ix) (4 + ix) jx (by omega) j1 j2]
        congr 1
        omega
theorem oI_row {Bd : Int} {tN iN : Nat} {A gx : Nat → Int} (h : oI Bd A) (ht : tN < nEd A) (hi : iN < 4) (hg : ∀ jx, 1 ≤ jx → jx ≤ nBr A tN → 0 ≤ gx jx ∧ gx jx ≤ 4) : oI Bd (rowA A tN iN gx) := by
  have hn := oI_n h
  obtain ⟨hIE, hb, hb1, hb9⟩ := oI_b h ht
  have hnE : nEd (rowA A tN iN gx) = nEd A := by
    unfold nEd
    rw [rowA_out hi hb9 (by omega)]
  have hbr := fun (jx kx : Nat) (j1 : 1 ≤ jx) (j2 : jx ≤ nBr A tN) (hk : kx < 8) => rowA_b (A := A) (tN := tN) (iN := iN) (gx := gx) hi j1 j2 hk
  have hor : ∀ ex, ex < nEd A → ∀ jx, 1 ≤ jx → jx ≤ nBr A ex → rowA A tN iN gx (190 + 813 * ex + 8 * jx) = A (190 + 813 * ex + 8 * jx) := fun ex he jx j1 j2 => by
    have := (oI_b h he).2.2.2
    exact rowA_ne (by rcases (show ex < tN ∨ ex = tN ∨ tN < ex by omega) with hjx | hjx | hjx <;> omega)
  refine oI_ed (eN := tN) h (Int.le_refl _) h.1.2 (by omega) (fun x _ _ hx => rowA_out hi hb9 (by omega)) (Or.inl ⟨rowA_out hi hb9 (by omega), ht⟩) (fun wx hw => ?_) ?_ ?_
  · rw [rowA_out hi hb9 (by omega)]
    exact (h.2.2.2.2.1 wx hw).1
  · obtain ⟨g0, g1, g2, g3, g4⟩ := hIE
    refine ⟨?_, ?_, ?_, fun ix hx => ?_, fun jx j1 j2 => ?_⟩
    · rw [rowA_ne (by omega)]
      exact g0
    · rw [rowA_ne (by omega)]
      exact g1
    · rw [rowA_ne (by omega)]
      exact g2
    · rw [rowA_ne (by omega), rowA_ne (by omega), rowA_ne (by omega)]
      exact g3 ix hx
    · rw [rowA_nB] at j2
      obtain ⟨q0, q1, q2, q3, q4⟩ := g4 jx j1 j2
      have e0 := hbr jx 0 j1 j2 (by omega)
      have e1 := hbr jx 1 j1 j2 (by omega)
      have e2 := hbr jx 2 j1 j2 (by omega)
      have e3 := hbr jx 3 j1 j2 (by omega)
      rw [Nat.add_zero, if_neg (by omega)] at e0
      rw [show 190 + 813 * tN + 8 * jx + 1 = 191 + 813 * tN + 8 * jx by omega, if_neg (by omega)] at e1
      rw [show 190 + 813 * tN + 8 * jx + 2 = 192 + 813 * tN + 8 * jx by omega, if_neg (by omega)] at e2
      rw [show 190 + 813 * tN + 8 * jx + 3 = 193 + 813 * tN + 8 * jx by omega, if_neg (by omega)] at e3
      rw [e0, e1, e2, e3]
      refine ⟨q0, q1, q2, q3, fun ix hx => ?_⟩
      have e4 := hbr jx (4 + ix) j1 j2 (by omega)
      rw [show 190 + 813 * tN + 8 * jx + (4 + ix) = 194 + 813 * tN + 8 * jx + ix by omega] at e4
      rw [e4]
      by_cases hc : 4 + ix = 4 + iN
      · rw [if_pos hc]
        exact hg jx j1 j2
      · rw [if_neg hc]
        exact q4 ix hx
  · obtain ⟨pos, hpos⟩ := h.2.2.2.2.2.2.2.2
    refine ⟨pos, fun ex he jx j1 j2 => ?_⟩
    rw [hnE] at he
    have hw3 := (oI_b h he).1.1
    have hb9x := (oI_b h he).2.2.2
    have eB : nBr (rowA A tN iN gx) ex = nBr A ex := by
      unfold nBr
      rw [rowA_ne (by rcases (show ex < tN ∨ ex = tN ∨ tN < ex by omega) with hjx | hjx | hjx <;> omega)]
    rw [eB] at j2
    have hp := hpos ex he jx j1 j2
    rw [rowA_ne (x := 177 + 813 * ex) (by rcases (show ex < tN ∨ ex = tN ∨ tN < ex by omega) with hjx | hjx | hjx <;> omega), hor ex he jx j1 j2, rowA_out hi hb9 (x := 3 + (A (177 + 813 * ex)).toNat) (by omega)]
    refine ⟨hp.1, fun kx k1 k2 => ?_⟩
    rw [eB] at k2
    rw [hor ex he kx (by omega) k2]
    exact hp.2 kx k1 k2
/-- instruments with players -/
def nPl (A : Nat → Int) : Nat := cntP (fun j => A (11 + j)) 6
theorem sumF_cnt {P : Nat → Int} : ∀ n, sumF (fun jx => if 0 < P jx then 1 else 0) n = ((cntP P n : Nat) : Int)
  | 0 => rfl
  | n + 1 => by
    show sumF _ n + (if 0 < P n then 1 else 0) = ((cntP P n + (if 0 < P n then 1 else 0) : Nat) : Int)
    rw [sumF_cnt n]
    split <;> omega
/-- loans of all that the first n instruments need -/
def lendNA (A : Nat → Int) (eN : Nat) (bo dx : Int) : Nat → Nat → Int
  | 0 => A
  | n + 1 => if 0 < A (11 + n) then lendA (lendNA A eN bo dx n) (nLn (lendNA A eN bo dx n)) eN n bo (deskF (fun j => A (11 + j)) n) dx else lendNA A eN bo dx n
theorem lendNA_s {A : Nat → Int} {Bd bo dx : Int} {eN : Nat} (h : oI Bd A) (hBd : Bd ≤ 99990000) (heN : eN < nEd A) (hbo : 0 ≤ bo ∧ bo ≤ 5) (hdx : 0 ≤ dx ∧ dx ≤ 999) (hM : nLn A + nPl A ≤ 20) : ∀ n : Nat, n ≤ 6 → oI (Bd + 30 * (n : Int)) (lendNA A eN bo dx n) ∧ nEd (lendNA A eN bo dx n) = nEd A ∧ nLn (lendNA A eN bo dx n) = nLn A + cntP (fun j => A (11 + j)) n ∧ (∀ j, j < 6 → lendNA A eN bo dx n (11 + j) = A (11 + j))
  | 0, _ => ⟨by rw [show Bd + 30 * ((0 : Nat) : Int) = Bd by omega]; exact h, rfl, rfl, fun _ _ => rfl⟩
  | n + 1, hn => by
    obtain ⟨q1, q2, q3, q4⟩ := lendNA_s h hBd heN hbo hdx hM n (by omega)
    have hm := cntP_mono (P := fun j => A (11 + j)) (jx := n + 1) (n := 6) hn
    have ec : cntP (fun j => A (11 + j)) (n + 1) = cntP (fun j => A (11 + j)) n + (if 0 < A (11 + n) then 1 else 0) := rfl
    have hM2 : nLn A + cntP (fun j => A (11 + j)) 6 ≤ 20 := hM
    have eL : lendNA A eN bo dx (n + 1) = if 0 < A (11 + n) then lendA (lendNA A eN bo dx n) (nLn (lendNA A eN bo dx n)) eN n bo (deskF (fun j => A (11 + j)) n) dx else lendNA A eN bo dx n := rfl
    rw [eL]
    by_cases hp : 0 < A (11 + n)
    · rw [if_pos hp] at ec
      rw [if_pos hp]
      have hl : nLn (lendNA A eN bo dx n) < 20 := by omega
      have hpb := h.2.2.2.2.2.1 n (by omega)
      have hd : 1 ≤ deskF (fun j => A (11 + j)) n ∧ deskF (fun j => A (11 + j)) n ≤ 30 := by
        unfold deskF
        show 1 ≤ (if n < 4 then (A (11 + n) + 1) / 2 else A (11 + n)) ∧ (if n < 4 then (A (11 + n) + 1) / 2 else A (11 + n)) ≤ 30
        split <;> omega
      have hs := oI_lend (eN := eN) (iN := n) (bo := bo) (cx := deskF (fun j => A (11 + j)) n) (dx := dx) q1 (by omega) (by omega) (by omega) hl hbo hd hdx
      refine ⟨?_, ?_, ?_, fun j hj => ?_⟩
      · rw [show Bd + 30 * ((n + 1 : Nat) : Int) = Bd + 30 * (n : Int) + 30 by omega]
        exact hs
      · rw [lendA_nE]
        exact q2
      · rw [lendA_nL q1, q3, ec]
        omega
      · rw [lendA_ne (by omega) (by omega) (by omega)]
        exact q4 j hj
    · rw [if_neg hp] at ec
      rw [if_neg hp]
      refine ⟨oI_grow q1 (by omega) (by omega), q2, ?_, q4⟩
      rw [q3, ec]
      rfl
theorem oHR_lendN {σ : oM} {hC eN : Nat} {A : Nat → Int} {Bd bo dx : Int} (hR : oHR σ hC A) (h : oI Bd A) (hBd : Bd ≤ 99990000) (heN : eN < nEd A) (hbo : 0 ≤ bo ∧ bo ≤ 5) (hdx : 0 ≤ dx ∧ dx ≤ 999) (hM : nLn A + nPl A ≤ 20) : ∀ n : Nat, n ≤ 6 → oHR (o_lendN σ hC (hC + 2 + 13 * eN) (nLn A) bo (eN : Int) dx n).1 hC (lendNA A eN bo dx n) ∧ (o_lendN σ hC (hC + 2 + 13 * eN) (nLn A) bo (eN : Int) dx n).2 = nLn (lendNA A eN bo dx n) ∧ ∀ x, (x < hC ∨ hC + 104 ≤ x) → (o_lendN σ hC (hC + 2 + 13 * eN) (nLn A) bo (eN : Int) dx n).1 x = σ x
  | 0, _ => ⟨hR, rfl, fun _ _ => rfl⟩
  | n + 1, hn => by
    obtain ⟨q1, q2, q3⟩ := oHR_lendN hR h hBd heN hbo hdx hM n (by omega)
    obtain ⟨s1, s2, s3, s4⟩ := lendNA_s h hBd heN hbo hdx hM n (by omega)
    have hne := oI_n h
    have hm := cntP_mono (P := fun j => A (11 + j)) (jx := n + 1) (n := 6) hn
    have ec : cntP (fun j => A (11 + j)) (n + 1) = cntP (fun j => A (11 + j)) n + (if 0 < A (11 + n) then 1 else 0) := rfl
    have hM2 : nLn A + cntP (fun j => A (11 + j)) 6 ≤ 20 := hM
    have hpl : ∀ j, j < 6 → (o_lendN σ hC (hC + 2 + 13 * eN) (nLn A) bo (eN : Int) dx n).1 (hC + 82) j = A (11 + j) := fun j hj => by
      rw [← s4 j hj]
      exact q1.2.2.2.2.1 j hj
    unfold o_lendN lendNA
    rw [hpl n (by omega)]
    by_cases hp : 0 < A (11 + n)
    · rw [if_pos hp] at ec
      rw [if_pos hp, if_pos hp]
      have hd : deskF ((o_lendN σ hC (hC + 2 + 13 * eN) (nLn A) bo (eN : Int) dx n).1 (hC + 82)) n = deskF (fun j => A (11 + j)) n := by
        unfold deskF
        rw [hpl n (by omega)]
      rw [hd, q2]
      have hl : nLn (lendNA A eN bo dx n) < 20 := by omega
      refine ⟨oHR_lend q1 s1 (by omega) (by omega) hl, ?_, fun x hx => ?_⟩
      · rw [lendA_nL s1]
      · show o_lend _ _ _ _ _ _ _ _ _ _ x = _
        rw [o_lend_ne (by omega) (by omega) (by omega) (by omega)]
        exact q3 x hx
    · rw [if_neg hp, if_neg hp]
      exact ⟨q1, q2, q3⟩
def fLendAll (A : Nat → Int) (Lh : List (Nat → Int)) (rf z v w : Int) : Int × (Nat → Int) × List (Nat → Int) × Int :=
  if (0 ≤ z ∧ z ≤ 5) ∧ isEdF A v then (if 0 ≤ w ∧ w ≤ 999 then (if nPl A = 0 then (-5, A, Lh, 6) else if ∀ jx, jx < 6 → deskF (fun j => A (11 + j)) jx ≤ inF A v.toNat jx then (if 0 < owesF A z 3 then (-5, A, Lh, 2) else if 20 < A 1 + (nPl A : Int) then (-5, A, Lh, 3) else ((nPl A : Int), lendNA A v.toNat z w 6, hpush Lh A, rf)) else (-5, A, Lh, 1))
    else (-2, A, Lh, rf)) else (-1, A, Lh, rf)
