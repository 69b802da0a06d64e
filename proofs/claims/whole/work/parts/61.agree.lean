/-! what is said depends only on places below 5055 -/
theorem ag_n {A B : Nat → Int} (hag : ∀ x, x < 5055 → B x = A x) : nEd B = nEd A ∧ nLn B = nLn A ∧ ∀ ex, ex < 6 → nBr B ex = nBr A ex := by
  refine ⟨?_, ?_, fun ex he => ?_⟩
  · unfold nEd
    rw [hag 0 (by omega)]
  · unfold nLn
    rw [hag 1 (by omega)]
  · unfold nBr
    rw [hag _ (by omega)]
theorem oHR_ag {σ : oM} {hC : Nat} {A B : Nat → Int} {Bd : Int} (h : oHR σ hC A) (hI : oI Bd A) (hag : ∀ x, x < 5055 → B x = A x) : oHR σ hC B := by
  obtain ⟨n1, n2, n3⟩ := ag_n hag
  have hn := oI_n hI
  have hcp := h
  obtain ⟨h0, h5, h7, h3, h4, -, -⟩ := hcp
  refine oHR_mk (by rw [n1]; exact h0) (by rw [n2]; exact h5) (by rw [hag 2 (by omega)]; exact h7) (fun wx hw => by rw [hag _ (by omega)]; exact (h3 wx hw).1) (fun wx hw => by rw [hag _ (by omega)]; exact (h3 wx hw).2) (fun ix hi => by rw [hag _ (by omega)]; exact h4 ix hi) (fun lx hl fk kx hk => ?_) (fun ex he => ?_) (fun ex he => ?_) (fun ex he => ?_) (fun ex he ix hi => ?_) (fun ex he ix hi => ?_) (fun ex he ix hi => ?_) (fun ex he jx j1 j2 rk kx hk => ?_)
  · rw [n2] at hl
    rw [hag _ (by omega)]
    exact oHR_l h hl hk
  · rw [n1] at he
    rw [hag _ (by omega)]
    exact (oHR_e h he).1
  · rw [n1] at he
    rw [hag _ (by omega)]
    exact (oHR_e h he).2.1
  · rw [n1] at he
    rw [n3 ex (by omega)]
    exact (oHR_e h he).2.2
  · rw [n1] at he
    rw [hag (180 + 813 * ex + 3 * ix) (by omega), hag (181 + 813 * ex + 3 * ix) (by omega), hag (182 + 813 * ex + 3 * ix) (by omega)]
    exact (oHR_c h he hi).1
  · rw [n1] at he
    rw [hag _ (by omega)]
    exact (oHR_c h he hi).2.1
  · rw [n1] at he
    rw [hag _ (by omega)]
    exact (oHR_c h he hi).2.2
  · rw [n1] at he
    rw [n3 ex (by omega)] at j2
    have hb := (oI_b hI he).2.2.2
    rw [hag _ (by omega)]
    exact oHR_r h he j1 j2 hk
theorem oIE_ag {A B : Nat → Int} {Bd : Int} {ex : Nat} (h : oIE Bd A ex) (he : ex < 6) (hB : nBr A ex ≤ 99) (hag : ∀ x, x < 5055 → B x = A x) : oIE Bd B ex := by
  obtain ⟨h1, h2, h3, h4, h5⟩ := h
  refine ⟨by rw [hag (177 + 813 * ex) (by omega)]; exact h1, by rw [hag (178 + 813 * ex) (by omega)]; exact h2, by rw [hag (179 + 813 * ex) (by omega)]; exact h3, fun ix hi => ?_, fun jx j1 j2 => ?_⟩
  · rw [hag (180 + 813 * ex + 3 * ix) (by omega), hag (181 + 813 * ex + 3 * ix) (by omega), hag (182 + 813 * ex + 3 * ix) (by omega)]
    exact h4 ix hi
  · rw [(ag_n hag).2.2 ex he] at j2
    obtain ⟨g1, g2, g3, g4, g5⟩ := h5 jx j1 j2
    refine ⟨by rw [hag (190 + 813 * ex + 8 * jx) (by omega)]; exact g1, by rw [hag (191 + 813 * ex + 8 * jx) (by omega)]; exact g2, by rw [hag (192 + 813 * ex + 8 * jx) (by omega)]; exact g3, by rw [hag (193 + 813 * ex + 8 * jx) (by omega)]; exact g4, fun ix hi => by rw [hag (194 + 813 * ex + 8 * jx + ix) (by omega)]; exact g5 ix hi⟩
theorem oI_ag {A B : Nat → Int} {Bd : Int} (hI : oI Bd A) (hag : ∀ x, x < 5055 → B x = A x) : oI Bd B := by
  obtain ⟨n1, n2, n3⟩ := ag_n hag
  have hn := oI_n hI
  have hIb := fun ex he => oI_b (ex := ex) hI he
  obtain ⟨h1, h2, h3, h4, h5, h6, h7, h8, pos, h9⟩ := hI
  refine ⟨h1, by rw [hag 0 (by omega)]; exact h2, by rw [hag 1 (by omega)]; exact h3, by rw [hag 2 (by omega)]; exact h4, fun wx hw => by rw [hag (3 + wx) (by omega), hag (7 + wx) (by omega)]; exact h5 wx hw, fun ix hi => by rw [hag (11 + ix) (by omega)]; exact h6 ix hi, fun lx hl => ?_, fun ex he => ?_, pos, fun ex he jx j1 j2 => ?_⟩
  · rw [n2] at hl
    rw [hag (17 + 8 * lx) (by omega), hag (18 + 8 * lx) (by omega), hag (19 + 8 * lx) (by omega), hag (20 + 8 * lx) (by omega), hag (21 + 8 * lx) (by omega), hag (22 + 8 * lx) (by omega), hag (23 + 8 * lx) (by omega), hag (24 + 8 * lx) (by omega), hag 0 (by omega)]
    exact h7 lx hl
  · rw [n1] at he
    exact oIE_ag (h8 ex he) (by omega) (hIb ex he).2.2.2 hag
  · rw [n1] at he
    rw [n3 ex (by omega)] at j2 ⊢
    have hb := (hIb ex he).2.2.2
    have hw := (h8 ex he).1
    obtain ⟨g1, g2⟩ := h9 ex he jx j1 j2
    rw [hag (190 + 813 * ex + 8 * jx) (by omega), hag (177 + 813 * ex) (by omega), hag (3 + (A (177 + 813 * ex)).toNat) (by omega)]
    refine ⟨g1, fun kx k1 k2 => ?_⟩
    rw [hag (190 + 813 * ex + 8 * kx) (by omega)]
    exact g2 kx k1 k2
theorem oJ_ag {A B : Nat → Int} (h : oJ A) (hn : nEd A ≤ 6) (hag : ∀ x, x < 5055 → B x = A x) : oJ B :=
  oJ_same h (ag_n hag).1 (fun ex he => hag _ (by omega)) (fun wx hw => hag _ (by omega))
