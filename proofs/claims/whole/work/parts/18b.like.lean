/-! holdings that became like others say the same -/
theorem hdLike_HR {σ σ2 : oM} {tC sC : Nat} {A : Nat → Int} (hl : hdLike σ2 tC σ sC (nEd A) (nLn A)) (h : oHR σ sC A) : oHR σ2 tC A := by
  obtain ⟨l0, l5, l7, lw, lp, le, ll, -⟩ := hl
  have hcp := h
  obtain ⟨h0, h5, h7, h3, h4, -, -⟩ := hcp
  refine oHR_mk (by rw [l0]; exact h0) (by rw [l5]; exact h5) (by rw [l7]; exact h7) (fun wx hw => by rw [(lw wx hw).1]; exact (h3 wx hw).1) (fun wx hw => by rw [(lw wx hw).2]; exact (h3 wx hw).2) (fun ix hi => by rw [lp ix hi]; exact h4 ix hi) (fun lx hx fk kx hk => by rw [ll lx hx fk (by omega)]; exact oHR_l h hx hk) (fun ex he => by rw [(le ex he).1]; exact (oHR_e h he).1) (fun ex he => by rw [(le ex he).2.1]; exact (oHR_e h he).2.1) (fun ex he => by rw [(le ex he).2.2.1]; exact (oHR_e h he).2.2) (fun ex he ix hi => by rw [((le ex he).2.2.2.2 ix hi).1]; exact (oHR_c h he hi).1) (fun ex he ix hi => by rw [((le ex he).2.2.2.2 ix hi).2.1]; exact (oHR_c h he hi).2.1) (fun ex he ix hi => by rw [((le ex he).2.2.2.2 ix hi).2.2]; exact (oHR_c h he hi).2.2) (fun ex he jx j1 j2 rk kx hk => ?_)
  rw [(le ex he).2.2.2.1 jx j1 (by rw [(oHR_e h he).2.2]; omega) rk (by omega)]
  exact oHR_r h he j1 j2 hk
