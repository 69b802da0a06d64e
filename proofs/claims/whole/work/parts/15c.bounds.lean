/-! the bounds after a change of one number: which -/
theorem oI_upB {Bd : Int} {eN bN kN : Nat} {A : Nat → Int} {tx : Int} (h : oI Bd A) (heN : eN < nEd A) (hb1 : 1 ≤ bN) (hb2 : bN ≤ 99) (hk1 : 1 ≤ kN) (hk8 : kN < 8) (hv1 : kN = 1 → 0 ≤ tx ∧ tx ≤ Bd) (hv2 : kN = 2 → 1 ≤ tx ∧ tx ≤ 9) (hv3 : kN = 3 → tx = 0 ∨ (200 ≤ tx ∧ tx ≤ 2500)) (hv4 : 4 ≤ kN → 0 ≤ tx ∧ tx ≤ 4) : oI Bd (updF A (190 + 813 * eN + 8 * bN + kN) tx) := by
  have hn := oI_n h
  have eNd : nEd (updF A (190 + 813 * eN + 8 * bN + kN) tx) = nEd A := by
    unfold nEd
    rw [updF_ne (by omega)]
  have eM : nLn (updF A (190 + 813 * eN + 8 * bN + kN) tx) = nLn A := by
    unfold nLn
    rw [updF_ne (by omega)]
  have eB : ∀ ex, nBr (updF A (190 + 813 * eN + 8 * bN + kN) tx) ex = nBr A ex := fun ex => by
    unfold nBr
    rw [updF_ne (by rcases (show ex < eN ∨ ex = eN ∨ eN < ex by omega) with hjx | hjx | hjx <;> omega)]
  refine oI_mk ?_ ?_ ?_ ?_ (fun wx hw => ?_) (fun wx hw => ?_) (fun ix hi => ?_) (fun lx hl kx hk => ?_) (fun ex he => ?_) (fun ex he ix hi => ?_) (fun ex he jx j1 j2 kx hk => ?_) ?_
  · exact h.1
  · rw [updF_ne (by omega)]
    exact h.2.1
  · rw [updF_ne (by omega)]
    exact h.2.2.1
  · rw [updF_ne (by omega)]
    exact h.2.2.2.1
  · rw [updF_ne (by omega)]
    exact (h.2.2.2.2.1 wx hw).1
  · rw [updF_ne (by omega)]
    exact (h.2.2.2.2.1 wx hw).2
  · rw [updF_ne (by omega)]
    exact h.2.2.2.2.2.1 ix hi
  · rw [eM] at hl
    rw [updF_ne (by omega), updF_ne (by omega)]
    exact oI_l h hl hk
  · rw [eNd] at he
    rw [updF_ne (by rcases (show ex < eN ∨ ex = eN ∨ eN < ex by omega) with hjx | hjx | hjx <;> omega), updF_ne (by rcases (show ex < eN ∨ ex = eN ∨ eN < ex by omega) with hjx | hjx | hjx <;> omega), updF_ne (by rcases (show ex < eN ∨ ex = eN ∨ eN < ex by omega) with hjx | hjx | hjx <;> omega)]
    exact ⟨(oI_b h he).1.1, (oI_b h he).1.2.1, (oI_b h he).1.2.2.1⟩
  · rw [eNd] at he
    rw [updF_ne (by rcases (show ex < eN ∨ ex = eN ∨ eN < ex by omega) with hjx | hjx | hjx <;> omega), updF_ne (by rcases (show ex < eN ∨ ex = eN ∨ eN < ex by omega) with hjx | hjx | hjx <;> omega), updF_ne (by rcases (show ex < eN ∨ ex = eN ∨ eN < ex by omega) with hjx | hjx | hjx <;> omega)]
    exact (oI_b h he).1.2.2.2.1 ix hi
  · rw [eNd] at he
    rw [eB] at j2
    have hB9x := (oI_b h he).2.2.2
    by_cases hc : ex = eN ∧ jx = bN ∧ kx = kN
    · obtain ⟨rfl, rfl, rfl⟩ := hc
      rw [updF_at]
      exact ⟨fun h0 => by omega, hv1, hv2, hv3, hv4⟩
    · rw [updF_ne (by rcases (show ex < eN ∨ ex = eN ∨ eN < ex by omega) with hjx | hjx | hjx <;> omega)]
      exact oI_r h he j1 j2 hk
  · obtain ⟨pos, hpos⟩ := h.2.2.2.2.2.2.2.2
    refine ⟨pos, fun ex he jx j1 j2 => ?_⟩
    rw [eNd] at he
    rw [eB] at j2
    have hB9x := (oI_b h he).2.2.2
    have hw3 := (oI_b h he).1.1
    have hp := hpos ex he jx j1 j2
    have e1 : (updF A (190 + 813 * eN + 8 * bN + kN) tx) (177 + 813 * ex) = A (177 + 813 * ex) := by rw [updF_ne (by rcases (show ex < eN ∨ ex = eN ∨ eN < ex by omega) with hjx | hjx | hjx <;> omega)]
    have e2 : (updF A (190 + 813 * eN + 8 * bN + kN) tx) (190 + 813 * ex + 8 * jx) = A (190 + 813 * ex + 8 * jx) := by rw [updF_ne (by rcases (show ex < eN ∨ ex = eN ∨ eN < ex by omega) with hjx | hjx | hjx <;> omega)]
    rw [e1, e2]
    refine ⟨?_, fun kx k1 k2 => ?_⟩
    · rw [updF_ne (by omega)]
      exact hp.1
    · rw [eB] at k2
      rw [updF_ne (by rcases (show ex < eN ∨ ex = eN ∨ eN < ex by omega) with hjx | hjx | hjx <;> omega)]
      exact hp.2 kx k1 k2
theorem oI_upP {Bd : Int} {iN : Nat} {A : Nat → Int} {tx : Int} (h : oI Bd A) (hiN : iN < 6) (hv : 0 ≤ tx ∧ tx ≤ 20) : oI Bd (updF A (11 + iN) tx) := by
  have hn := oI_n h
  have eNd : nEd (updF A (11 + iN) tx) = nEd A := by
    unfold nEd
    rw [updF_ne (by omega)]
  have eM : nLn (updF A (11 + iN) tx) = nLn A := by
    unfold nLn
    rw [updF_ne (by omega)]
  have eB : ∀ ex, nBr (updF A (11 + iN) tx) ex = nBr A ex := fun ex => by
    unfold nBr
    rw [updF_ne (by omega)]
  refine oI_mk ?_ ?_ ?_ ?_ (fun wx hw => ?_) (fun wx hw => ?_) (fun ix hi => ?_) (fun lx hl kx hk => ?_) (fun ex he => ?_) (fun ex he ix hi => ?_) (fun ex he jx j1 j2 kx hk => ?_) ?_
  · exact h.1
  · rw [updF_ne (by omega)]
    exact h.2.1
  · rw [updF_ne (by omega)]
    exact h.2.2.1
  · rw [updF_ne (by omega)]
    exact h.2.2.2.1
  · rw [updF_ne (by omega)]
    exact (h.2.2.2.2.1 wx hw).1
  · rw [updF_ne (by omega)]
    exact (h.2.2.2.2.1 wx hw).2
  · by_cases hc : ix = iN
    · subst hc
      rw [updF_at]
      exact hv
    · rw [updF_ne (by omega)]
      exact h.2.2.2.2.2.1 ix hi
  · rw [eM] at hl
    rw [updF_ne (by omega), updF_ne (by omega)]
    exact oI_l h hl hk
  · rw [eNd] at he
    rw [updF_ne (by omega), updF_ne (by omega), updF_ne (by omega)]
    exact ⟨(oI_b h he).1.1, (oI_b h he).1.2.1, (oI_b h he).1.2.2.1⟩
  · rw [eNd] at he
    rw [updF_ne (by omega), updF_ne (by omega), updF_ne (by omega)]
    exact (oI_b h he).1.2.2.2.1 ix hi
  · rw [eNd] at he
    rw [eB] at j2
    have hB9x := (oI_b h he).2.2.2
    rw [updF_ne (by omega)]
    exact oI_r h he j1 j2 hk
  · obtain ⟨pos, hpos⟩ := h.2.2.2.2.2.2.2.2
    refine ⟨pos, fun ex he jx j1 j2 => ?_⟩
    rw [eNd] at he
    rw [eB] at j2
    have hB9x := (oI_b h he).2.2.2
    have hw3 := (oI_b h he).1.1
    have hp := hpos ex he jx j1 j2
    have e1 : (updF A (11 + iN) tx) (177 + 813 * ex) = A (177 + 813 * ex) := by rw [updF_ne (by omega)]
    have e2 : (updF A (11 + iN) tx) (190 + 813 * ex + 8 * jx) = A (190 + 813 * ex + 8 * jx) := by rw [updF_ne (by omega)]
    rw [e1, e2]
    refine ⟨?_, fun kx k1 k2 => ?_⟩
    · rw [updF_ne (by omega)]
      exact hp.1
    · rw [eB] at k2
      rw [updF_ne (by omega)]
      exact hp.2 kx k1 k2
theorem oI_upD {Bd : Int} {A : Nat → Int} {tx : Int} (h : oI Bd A) (hv : 0 ≤ tx ∧ tx ≤ 9999) : oI Bd (updF A (2) tx) := by
  have hn := oI_n h
  have eNd : nEd (updF A (2) tx) = nEd A := by
    unfold nEd
    rw [updF_ne (by omega)]
  have eM : nLn (updF A (2) tx) = nLn A := by
    unfold nLn
    rw [updF_ne (by omega)]
  have eB : ∀ ex, nBr (updF A (2) tx) ex = nBr A ex := fun ex => by
    unfold nBr
    rw [updF_ne (by omega)]
  refine oI_mk ?_ ?_ ?_ ?_ (fun wx hw => ?_) (fun wx hw => ?_) (fun ix hi => ?_) (fun lx hl kx hk => ?_) (fun ex he => ?_) (fun ex he ix hi => ?_) (fun ex he jx j1 j2 kx hk => ?_) ?_
  · exact h.1
  · rw [updF_ne (by omega)]
    exact h.2.1
  · rw [updF_ne (by omega)]
    exact h.2.2.1
  · rw [updF_at]
    exact hv
  · rw [updF_ne (by omega)]
    exact (h.2.2.2.2.1 wx hw).1
  · rw [updF_ne (by omega)]
    exact (h.2.2.2.2.1 wx hw).2
  · rw [updF_ne (by omega)]
    exact h.2.2.2.2.2.1 ix hi
  · rw [eM] at hl
    rw [updF_ne (by omega), updF_ne (by omega)]
    exact oI_l h hl hk
  · rw [eNd] at he
    rw [updF_ne (by omega), updF_ne (by omega), updF_ne (by omega)]
    exact ⟨(oI_b h he).1.1, (oI_b h he).1.2.1, (oI_b h he).1.2.2.1⟩
  · rw [eNd] at he
    rw [updF_ne (by omega), updF_ne (by omega), updF_ne (by omega)]
    exact (oI_b h he).1.2.2.2.1 ix hi
  · rw [eNd] at he
    rw [eB] at j2
    have hB9x := (oI_b h he).2.2.2
    rw [updF_ne (by omega)]
    exact oI_r h he j1 j2 hk
  · obtain ⟨pos, hpos⟩ := h.2.2.2.2.2.2.2.2
    refine ⟨pos, fun ex he jx j1 j2 => ?_⟩
    rw [eNd] at he
    rw [eB] at j2
    have hB9x := (oI_b h he).2.2.2
    have hw3 := (oI_b h he).1.1
    have hp := hpos ex he jx j1 j2
    have e1 : (updF A (2) tx) (177 + 813 * ex) = A (177 + 813 * ex) := by rw [updF_ne (by omega)]
    have e2 : (updF A (2) tx) (190 + 813 * ex + 8 * jx) = A (190 + 813 * ex + 8 * jx) := by rw [updF_ne (by omega)]
    rw [e1, e2]
    refine ⟨?_, fun kx k1 k2 => ?_⟩
    · rw [updF_ne (by omega)]
      exact hp.1
    · rw [eB] at k2
      rw [updF_ne (by omega)]
      exact hp.2 kx k1 k2
theorem oI_upC {Bd : Int} {eN iN : Nat} {A : Nat → Int} {tx : Int} (h : oI Bd A) (heN : eN < nEd A) (hiN : iN < 6) (hv : 0 ≤ tx ∧ tx ≤ 30) : oI Bd (updF A (180 + 813 * eN + 3 * iN) tx) := by
  have hn := oI_n h
  have eNd : nEd (updF A (180 + 813 * eN + 3 * iN) tx) = nEd A := by
    unfold nEd
    rw [updF_ne (by omega)]
  have eM : nLn (updF A (180 + 813 * eN + 3 * iN) tx) = nLn A := by
    unfold nLn
    rw [updF_ne (by omega)]
  have eB : ∀ ex, nBr (updF A (180 + 813 * eN + 3 * iN) tx) ex = nBr A ex := fun ex => by
    unfold nBr
    rw [updF_ne (by rcases (show ex < eN ∨ ex = eN ∨ eN < ex by omega) with hjx | hjx | hjx <;> omega)]
  refine oI_mk ?_ ?_ ?_ ?_ (fun wx hw => ?_) (fun wx hw => ?_) (fun ix hi => ?_) (fun lx hl kx hk => ?_) (fun ex he => ?_) (fun ex he ix hi => ?_) (fun ex he jx j1 j2 kx hk => ?_) ?_
  · exact h.1
  · rw [updF_ne (by omega)]
    exact h.2.1
  · rw [updF_ne (by omega)]
    exact h.2.2.1
  · rw [updF_ne (by omega)]
    exact h.2.2.2.1
  · rw [updF_ne (by omega)]
    exact (h.2.2.2.2.1 wx hw).1
  · rw [updF_ne (by omega)]
    exact (h.2.2.2.2.1 wx hw).2
  · rw [updF_ne (by omega)]
    exact h.2.2.2.2.2.1 ix hi
  · rw [eM] at hl
    rw [updF_ne (by omega), updF_ne (by omega)]
    exact oI_l h hl hk
  · rw [eNd] at he
    rw [updF_ne (by rcases (show ex < eN ∨ ex = eN ∨ eN < ex by omega) with hjx | hjx | hjx <;> omega), updF_ne (by rcases (show ex < eN ∨ ex = eN ∨ eN < ex by omega) with hjx | hjx | hjx <;> omega), updF_ne (by rcases (show ex < eN ∨ ex = eN ∨ eN < ex by omega) with hjx | hjx | hjx <;> omega)]
    exact ⟨(oI_b h he).1.1, (oI_b h he).1.2.1, (oI_b h he).1.2.2.1⟩
  · rw [eNd] at he
    have hold := (oI_b h he).1.2.2.2.1 ix hi
    by_cases hc : ex = eN ∧ ix = iN
    · obtain ⟨rfl, rfl⟩ := hc
      rw [updF_at, updF_ne (by omega), updF_ne (by omega)]
      exact ⟨hv, hold.2.1, hold.2.2⟩
    · rw [updF_ne (by rcases (show ex < eN ∨ ex = eN ∨ eN < ex by omega) with hjx | hjx | hjx <;> omega), updF_ne (by rcases (show ex < eN ∨ ex = eN ∨ eN < ex by omega) with hjx | hjx | hjx <;> omega), updF_ne (by rcases (show ex < eN ∨ ex = eN ∨ eN < ex by omega) with hjx | hjx | hjx <;> omega)]
      exact hold
  · rw [eNd] at he
    rw [eB] at j2
    have hB9x := (oI_b h he).2.2.2
    rw [updF_ne (by rcases (show ex < eN ∨ ex = eN ∨ eN < ex by omega) with hjx | hjx | hjx <;> omega)]
    exact oI_r h he j1 j2 hk
  · obtain ⟨pos, hpos⟩ := h.2.2.2.2.2.2.2.2
    refine ⟨pos, fun ex he jx j1 j2 => ?_⟩
    rw [eNd] at he
    rw [eB] at j2
    have hB9x := (oI_b h he).2.2.2
    have hw3 := (oI_b h he).1.1
    have hp := hpos ex he jx j1 j2
    have e1 : (updF A (180 + 813 * eN + 3 * iN) tx) (177 + 813 * ex) = A (177 + 813 * ex) := by rw [updF_ne (by rcases (show ex < eN ∨ ex = eN ∨ eN < ex by omega) with hjx | hjx | hjx <;> omega)]
    have e2 : (updF A (180 + 813 * eN + 3 * iN) tx) (190 + 813 * ex + 8 * jx) = A (190 + 813 * ex + 8 * jx) := by rw [updF_ne (by rcases (show ex < eN ∨ ex = eN ∨ eN < ex by omega) with hjx | hjx | hjx <;> omega)]
    rw [e1, e2]
    refine ⟨?_, fun kx k1 k2 => ?_⟩
    · rw [updF_ne (by omega)]
      exact hp.1
    · rw [eB] at k2
      rw [updF_ne (by rcases (show ex < eN ∨ ex = eN ∨ eN < ex by omega) with hjx | hjx | hjx <;> omega)]
      exact hp.2 kx k1 k2
