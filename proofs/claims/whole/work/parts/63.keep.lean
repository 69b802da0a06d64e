/-! what every call keeps -/
def oIJ (Bd : Int) (A : Nat → Int) : Prop := oI Bd A ∧ oJ A
theorem IJ_grow {Bd B2 : Int} {A : Nat → Int} (h : oIJ Bd A) (h1 : Bd ≤ B2) (h2 : B2 ≤ 100000000) : oIJ B2 A := ⟨oI_grow h.1 h1 h2, h.2⟩
theorem IJ_ag {Bd : Int} {A B : Nat → Int} (h : oIJ Bd A) (hag : ∀ x, x < 5055 → B x = A x) : oIJ Bd B := ⟨oI_ag h.1 hag, oJ_ag h.2 (oI_n h.1).2.2.1 hag⟩
theorem fTempo_K {Bd : Int} {A : Nat → Int} {z v w : Int} (h : oIJ Bd A) (hB : Bd ≤ 99000000) : oIJ (Bd + 162000) (fTempo A z v w).2 := ⟨oI_grow (fTempo_I h.1) (by omega) (by omega), fTempo_J h.2 h.1⟩
theorem fBow_K {Bd : Int} {A : Nat → Int} {z v u w : Int} (h : oIJ Bd A) (hB : Bd ≤ 99000000) : oIJ (Bd + 162000) (fBow A z v u w).2 := ⟨oI_grow (fBow_I h.1) (by omega) (by omega), fBow_J h.2 h.1⟩
theorem fCut_K {Bd rf : Int} {A : Nat → Int} {z v w : Int} (h : oIJ Bd A) (hB : Bd ≤ 99000000) : oIJ (Bd + 162000) (fCut A rf z v w).2.1 := ⟨oI_grow (fCut_I h.1) (by omega) (by omega), fCut_J h.2 h.1⟩
theorem fIns_K {Bd rf : Int} {A : Nat → Int} {z v w u : Int} (h : oIJ Bd A) (hB : Bd ≤ 99000000) : oIJ (Bd + 162000) (fIns A rf z v w u).2.1 := ⟨oI_grow (fIns_I h.1 (by omega)) (by omega) (by omega), fIns_J h.2 h.1⟩
theorem fRew_K {Bd rf : Int} {A : Nat → Int} {z v w : Int} (h : oIJ Bd A) (hB : Bd ≤ 99000000) : oIJ (Bd + 162000) (fRew A rf z v w).2.1 := ⟨oI_grow (fRew_I h.1 (by omega)) (by omega) (by omega), fRew_J h.2 h.1⟩
theorem fLend_K {Bd rf : Int} {A : Nat → Int} {z v w u d : Int} (h : oIJ Bd A) (hB : Bd ≤ 99000000) : oIJ (Bd + 162000) (fLend A rf z v w u d).2.1 := ⟨oI_grow (fLend_I h.1 (by omega)) (by omega) (by omega), fLend_J h.2 h.1⟩
theorem fBring_K {Bd rf : Int} {A : Nat → Int} {z v w : Int} (h : oIJ Bd A) (hB : Bd ≤ 99000000) : oIJ (Bd + 162000) (fBring A rf z v w).2.1 := ⟨oI_grow (fBring_I h.1 (by omega)) (by omega) (by omega), fBring_J h.2 h.1⟩
theorem fSeat_K {Bd : Int} {A : Nat → Int} {Lh : List (Nat → Int)} {z v : Int} (h : oIJ Bd A) (hB : Bd ≤ 99000000) : oIJ (Bd + 162000) (fSeat A Lh z v).2.1 := by
  refine ⟨?_, fSeat_J h.2 h.1⟩
  have hg := oI_grow h.1 (B2 := Bd + 162000) (by omega) (by omega)
  unfold fSeat
  by_cases h1 : 0 ≤ z ∧ z ≤ 5
  · rw [if_pos h1]
    by_cases h2 : 0 ≤ v ∧ v ≤ 20
    · rw [if_pos h2]
      exact oI_upP hg (by omega) h2
    · rw [if_neg h2]
      exact hg
  · rw [if_neg h1]
    exact hg
theorem fPass_K {Bd : Int} {A : Nat → Int} {Lh : List (Nat → Int)} {z : Int} (h : oIJ Bd A) (hB : Bd ≤ 99000000) : oIJ (Bd + 162000) (fPass A Lh z).2.1 := by
  refine ⟨?_, fPass_J h.2 h.1⟩
  have hg := oI_grow h.1 (B2 := Bd + 162000) (by omega) (by omega)
  have hdy := h.1.2.2.2.1
  unfold fPass
  by_cases h1 : 1 ≤ z ∧ z ≤ 999
  · rw [if_pos h1]
    by_cases h2 : 9999 < A 2 + z
    · rw [if_pos h2]
      exact hg
    · rw [if_neg h2]
      exact oI_upD hg (by omega)
  · rw [if_neg h1]
    exact hg
theorem fBuy_K {Bd : Int} {A : Nat → Int} {Lh : List (Nat → Int)} {z v w : Int} (h : oIJ Bd A) (hB : Bd ≤ 99000000) : oIJ (Bd + 162000) (fBuy A Lh z v w).2.1 := by
  refine ⟨?_, fBuy_J h.2 h.1⟩
  have hg := oI_grow h.1 (B2 := Bd + 162000) (by omega) (by omega)
  unfold fBuy
  by_cases h1 : isEdF A z ∧ 0 ≤ v ∧ v ≤ 5
  · rw [if_pos h1]
    obtain ⟨eN, rfl, g1, g2⟩ := isEd_n h.1 h1.1
    simp only [Int.toNat_natCast]
    by_cases h2 : 1 ≤ w ∧ w ≤ 30
    · rw [if_pos h2]
      by_cases h3 : 30 < A (180 + 813 * eN + 3 * v.toNat) + w
      · rw [if_pos h3]
        exact hg
      · rw [if_neg h3]
        have hc := ((oI_b h.1 g1).1.2.2.2.1 v.toNat (by omega)).1
        exact oI_upC hg g1 (by omega) (by omega)
    · rw [if_neg h2]
      exact hg
  · rw [if_neg h1]
    exact hg
theorem fEdition_K {Bd : Int} {A : Nat → Int} {Lh : List (Nat → Int)} {z v w : Int} (h : oIJ Bd A) (hB : Bd ≤ 99000000) : oIJ (Bd + 162000) (fEdition A Lh z v w).2.1 := by
  have hg := IJ_grow h (B2 := Bd + 162000) (by omega) (by omega)
  have hn := oI_n h.1
  unfold fEdition
  by_cases h1 : 0 ≤ z ∧ z ≤ 3
  · rw [if_pos h1]
    by_cases h2 : (1 ≤ v ∧ v ≤ 99) ∧ (1 ≤ w ∧ w ≤ 9)
    · rw [if_pos h2]
      by_cases h3 : ∃ ex, ex < nEd A ∧ A (177 + 813 * ex) = z
      · rw [if_pos h3]
        exact hg
      · rw [if_neg h3]
        by_cases h4 : 6 ≤ A 0
        · rw [if_pos h4]
          exact hg
        · rw [if_neg h4]
          have hzn : ∀ ex, ex < nEd A → A (177 + 813 * ex) ≠ ((z.toNat : Nat) : Int) := fun ex he hc => h3 ⟨ex, he, by omega⟩
          refine ⟨oI_grow (oI_edn h.1 (by omega) (by omega) (by omega) (by omega) (by omega) h2.2 hzn) (by omega) (by omega), fun wx hw hc => ?_⟩
          have hnE := edA_nE (eN := nEd A) (wN := z.toNat) (Bn := v.toNat) (bt := w) h.1
          show edA A (nEd A) z.toNat v.toNat w (7 + wx) = 0
          rw [edA_ne (by omega) (by omega) (by omega)]
          exact h.2 wx hw (fun ex he q => hc ex (by show ex < nEd (edA A (nEd A) z.toNat v.toNat w); omega) ((edA_ne (by omega) (by omega) (by omega)).trans q))
    · rw [if_neg h2]
      exact hg
  · rw [if_neg h1]
    exact hg
theorem fDerive_K {Bd : Int} {A : Nat → Int} {Lh : List (Nat → Int)} {z : Int} (h : oIJ Bd A) (hB : Bd ≤ 99000000) : oIJ (Bd + 162000) (fDerive A Lh z).2.1 := by
  have hg := IJ_grow h (B2 := Bd + 162000) (by omega) (by omega)
  have hn := oI_n h.1
  unfold fDerive
  by_cases h1 : isEdF A z
  · rw [if_pos h1]
    obtain ⟨kN, rfl, g1, g2⟩ := isEd_n h.1 h1
    rw [Int.toNat_natCast]
    by_cases h4 : 6 ≤ A 0
    · rw [if_pos h4]
      exact hg
    · rw [if_neg h4]
      refine ⟨oI_grow (oI_drv h.1 (by omega) g1) (by omega) (by omega), fun wx hw hc => ?_⟩
      have hnE := drvA_nE (eN := nEd A) (kN := kN) h.1
      show drvA A (nEd A) kN (7 + wx) = 0
      rw [drvA_ne (by omega) (by omega)]
      exact h.2 wx hw (fun ex he q => hc ex (by show ex < nEd (drvA A (nEd A) kN); omega) ((drvA_ne (by omega) (by omega)).trans q))
  · rw [if_neg h1]
    exact hg
theorem fCopyB_K {Bd : Int} {A : Nat → Int} {Lh : List (Nat → Int)} {tl : oTold} {z v w u : Int} (h : oIJ Bd A) (hB : Bd ≤ 99000000) : oIJ (Bd + 162000) (fCopyB A Lh tl z v w u).2.1 := by
  have hg := IJ_grow h (B2 := Bd + 162000) (by omega) (by omega)
  have hn := oI_n h.1
  unfold fCopyB
  by_cases h1 : isEdF A z ∧ isEdF A v ∧ (0 ≤ w ∧ w ≤ 3)
  · rw [if_pos h1]
    by_cases h2 : z ≠ v ∧ A (177 + 813 * z.toNat) = A (177 + 813 * v.toNat) ∧ (0 ≤ u ∧ u ≤ 1)
    · rw [if_pos h2]
      obtain ⟨fN, rfl, f1x, f2x⟩ := isEd_n h.1 h1.1
      obtain ⟨tN, rfl, t1x, t2x⟩ := isEd_n h.1 h1.2.1
      simp only [Int.toNat_natCast]
      have hIE := oI_b h.1 f1x
      have hIK := oI_b h.1 t1x
      have hin := cpS_in (fb := fun j => A (194 + 813 * fN + 8 * j + w.toNat)) (o1 := fun j => A (190 + 813 * fN + 8 * j)) (v1 := fun j => A (191 + 813 * fN + 8 * j)) (o2 := fun j => A (190 + 813 * tN + 8 * j)) (v2 := fun j => A (191 + 813 * tN + 8 * j)) (t0x := fun j => A (194 + 813 * tN + 8 * j + w.toNat)) (B2 := nBr A tN) (rp := u) (fun j j1 j2 => (hIK.1.2.2.2.2 j j1 j2).2.2.2.2 w.toNat (by omega)) (nBr A fN) (fun j j1 j2 => (hIE.1.2.2.2.2 j j1 j2).2.2.2.2 w.toNat (by omega))
      exact ⟨oI_row hg.1 t1x (by omega) hin, oJ_out h.2 hn.2.2.1 (rowA_out (by omega) hIK.2.2.2 (by omega)) (fun wx hw => rowA_out (by omega) hIK.2.2.2 (by omega)) (fun ex he => rowA_out (by omega) hIK.2.2.2 (by rcases (show ex < tN ∨ ex = tN ∨ tN < ex by omega) with q | q | q <;> omega))⟩
    · rw [if_neg h2]
      exact hg
  · rw [if_neg h1]
    exact hg
theorem lendNA_J {A : Nat → Int} {Bd bo dx : Int} {eN : Nat} (hj : oJ A) (h : oI Bd A) (hBd : Bd ≤ 99990000) (heN : eN < nEd A) (hbo : 0 ≤ bo ∧ bo ≤ 5) (hdx : 0 ≤ dx ∧ dx ≤ 999) (hM : nLn A + nPl A ≤ 20) : ∀ n : Nat, n ≤ 6 → oJ (lendNA A eN bo dx n)
  | 0, _ => hj
  | n + 1, hn => by
    have ih := lendNA_J hj h hBd heN hbo hdx hM n (by omega)
    obtain ⟨q1, q2, q3, q4⟩ := lendNA_s h hBd heN hbo hdx hM n (by omega)
    have hm := cntP_mono (P := fun j => A (11 + j)) (jx := n + 1) (n := 6) hn
    have ec : cntP (fun j => A (11 + j)) (n + 1) = cntP (fun j => A (11 + j)) n + (if 0 < A (11 + n) then 1 else 0) := rfl
    have hp : nPl A = cntP (fun j => A (11 + j)) 6 := rfl
    have hn6 := (oI_n h).2.2.1
    rw [lendNA]
    by_cases hc : 0 < A (11 + n)
    · rw [if_pos hc] at ec ⊢
      exact lendA_J ih (by omega) (by omega) (by omega)
    · rw [if_neg hc]
      exact ih
theorem fLendAll_K {Bd rf : Int} {A : Nat → Int} {Lh : List (Nat → Int)} {z v w : Int} (h : oIJ Bd A) (hB : Bd ≤ 99000000) : oIJ (Bd + 162000) (fLendAll A Lh rf z v w).2.1 := by
  have hg := IJ_grow h (B2 := Bd + 162000) (by omega) (by omega)
  have hn := oI_n h.1
  unfold fLendAll
  by_cases h1 : (0 ≤ z ∧ z ≤ 5) ∧ isEdF A v
  · rw [if_pos h1]
    by_cases h2 : 0 ≤ w ∧ w ≤ 999
    · rw [if_pos h2]
      by_cases h3 : nPl A = 0
      · rw [if_pos h3]
        exact hg
      · rw [if_neg h3]
        by_cases h4 : ∀ jx, jx < 6 → deskF (fun j => A (11 + j)) jx ≤ inF A v.toNat jx
        · rw [if_pos h4]
          by_cases h5 : 0 < owesF A z 3
          · rw [if_pos h5]
            exact hg
          · rw [if_neg h5]
            by_cases h6 : 20 < A 1 + (nPl A : Int)
            · rw [if_pos h6]
              exact hg
            · rw [if_neg h6]
              obtain ⟨eN, rfl, g1, g2⟩ := isEd_n h.1 h1.2
              rw [Int.toNat_natCast]
              exact ⟨oI_grow (lendNA_s h.1 (by omega) g1 h1.1 h2 (by omega) 6 (by omega)).1 (by omega) (by omega), lendNA_J h.2 h.1 (by omega) g1 h1.1 h2 (by omega) 6 (by omega)⟩
        · rw [if_neg h4]
          exact hg
    · rw [if_neg h2]
      exact hg
  · rw [if_neg h1]
    exact hg
theorem fDo_J {Bd rf : Int} {A : Nat → Int} {c : oCmd} (h : oJ A) (hI : oI Bd A) : oJ (fDo A rf c).2.1 := by
  unfold fDo
  by_cases c1 : c.1 = 99
  · rw [if_pos c1]
    exact fCut_J h hI
  · rw [if_neg c1]
    by_cases c2 : c.1 = 105
    · rw [if_pos c2]
      exact fIns_J h hI
    · rw [if_neg c2]
      by_cases c3 : c.1 = 119
      · rw [if_pos c3]
        exact fRew_J h hI
      · rw [if_neg c3]
        by_cases c4 : c.1 = 116
        · rw [if_pos c4]
          exact fTempo_J h hI
        · rw [if_neg c4]
          by_cases c5 : c.1 = 98
          · rw [if_pos c5]
            exact fBow_J h hI
          · rw [if_neg c5]
            by_cases c6 : c.1 = 108
            · rw [if_pos c6]
              exact fLend_J h hI
            · rw [if_neg c6]
              exact fBring_J h hI
theorem fRun_K : ∀ (l : List oCmd) (k : Nat) (A : Nat → Int) (rf Bd : Int), oIJ Bd A → Bd + 2700 * (l.length : Int) ≤ 99990000 → oIJ (Bd + 2700 * (l.length : Int)) (fRun l k A rf).2.1
  | [], k, A, rf, Bd, h, hB => IJ_grow h (by omega) (by omega)
  | c :: cs, k, A, rf, Bd, h, hB => by
    rw [List.length_cons] at hB ⊢
    have hs : oIJ (Bd + 2700) (fDo A rf c).2.1 := ⟨fDo_I h.1 (by omega), fDo_J h.2 h.1⟩
    unfold fRun
    by_cases hc : (fDo A rf c).1 < 0 ∧ (fDo A rf c).1 ≠ -7
    · rw [if_pos hc]
      exact IJ_grow hs (by omega) (by omega)
    · rw [if_neg hc]
      exact IJ_grow (fRun_K cs (k + 1) _ _ (Bd + 2700) hs (by omega)) (by omega) (by omega)
theorem fRead_K {Bd rf : Int} {nI : Nat} {f A : Nat → Int} {Lh : List (Nat → Int)} (h : oIJ Bd A) (hB : Bd ≤ 99000000) (hn : nI ≤ 60) : oIJ (Bd + 162000) (fRead nI f A Lh rf).2.1 := by
  have hg := IJ_grow h (B2 := Bd + 162000) (by omega) (by omega)
  have hl : (paP f nI 60 0 []).2.length ≤ nI := paP_len 60 0 [] (Nat.zero_le _) (Nat.zero_le _)
  unfold fRead
  by_cases h1 : (paP f nI 60 0 []).1 ≠ -7
  · rw [if_pos h1]
    exact hg
  · rw [if_neg h1]
    by_cases h2 : (fRun (paP f nI 60 0 []).2 0 A rf).1 = none
    · rw [if_pos h2]
      exact IJ_grow (fRun_K _ 0 A rf Bd h (by omega)) (by omega) (by omega)
    · rw [if_neg h2]
      exact hg
