theorem oHR_fr {σ σ2 : oM} {hC : Nat} {A : Nat → Int} (h : oHR σ hC A) (hn : nEd A ≤ 6 ∧ nLn A ≤ 20) (hf : ∀ x, hC ≤ x → x < hC + 104 → σ2 x = σ x) : oHR σ2 hC A := by
  have hcp := h
  obtain ⟨h0, h5, h7, h3, h4, -, -⟩ := hcp
  refine oHR_mk ?_ ?_ ?_ (fun wx hw => ?_) (fun wx hw => ?_) (fun ix hi => ?_) (fun lx hl fk kx hk => ?_) (fun ex he => ?_) (fun ex he => ?_) (fun ex he => ?_) (fun ex he ix hi => ?_) (fun ex he ix hi => ?_) (fun ex he ix hi => ?_) (fun ex he jx j1 j2 rk kx hk => ?_)
  · rw [hf _ (by omega) (by omega)]
    exact h0
  · rw [hf _ (by omega) (by omega)]
    exact h5
  · rw [hf _ (by omega) (by omega)]
    exact h7
  · rw [hf _ (by omega) (by omega)]
    exact (h3 wx hw).1
  · rw [hf _ (by omega) (by omega)]
    exact (h3 wx hw).2
  · rw [hf _ (by omega) (by omega)]
    exact h4 ix hi
  · rw [hf _ (by omega) (by omega)]
    exact oHR_l h hl hk
  · rw [hf _ (by omega) (by omega)]
    exact (oHR_e h he).1
  · rw [hf _ (by omega) (by omega)]
    exact (oHR_e h he).2.1
  · rw [hf _ (by omega) (by omega)]
    exact (oHR_e h he).2.2
  · rw [hf _ (by omega) (by omega)]
    exact (oHR_c h he hi).1
  · rw [hf _ (by omega) (by omega)]
    exact (oHR_c h he hi).2.1
  · rw [hf _ (by omega) (by omega)]
    exact (oHR_c h he hi).2.2
  · rw [hf _ (by omega) (by omega)]
    exact oHR_r h he j1 j2 hk
/-- a refused call -/
theorem oCh_no {σ : oM} {xC : Nat} {A : Nat → Int} {tx : Int} (h : oHR σ (xC + 1) A) (hn : nEd A ≤ 6 ∧ nLn A ≤ 20) : oCh σ (o_up σ xC 10 tx) xC A tx :=
  ⟨oHR_fr h hn (fun x h1 _ => o_up_ne (by omega)), fun x h3 _ => o_up_ne h3, fun k hk => o_up_nj (Or.inr hk), o_up_at⟩
def fRew (A : Nat → Int) (rf z v w : Int) : Int × (Nat → Int) × Int :=
  if isBrF A z v then (if 1 ≤ w ∧ w ≤ 9 then (if 0 < boughtF A z.toNat then (-5, A, 4)
    else (A (7 + (A (177 + 813 * z.toNat)).toNat) + 1, updF (updF (updF A (7 + (A (177 + 813 * z.toNat)).toNat) (A (7 + (A (177 + 813 * z.toNat)).toNat) + 1)) (191 + 813 * z.toNat + 8 * v.toNat) (A (7 + (A (177 + 813 * z.toNat)).toNat) + 1)) (192 + 813 * z.toNat + 8 * v.toNat) w, rf))
  else (-2, A, rf)) else (-1, A, rf)
/-- the sum that the class asks for is what was bought -/
theorem bought_of {σ : oM} {hC ex : Nat} {A : Nat → Int} (h : oHR σ hC A) (he : ex < nEd A) : sumF (fun ix => σ (hC + 2 + 13 * ex + 10) ix + σ (hC + 2 + 13 * ex + 11) ix + σ (hC + 2 + 13 * ex + 12) ix) 6 = boughtF A ex := by
  unfold boughtF
  refine sumF_congr (fun i hi => ?_)
  obtain ⟨q1, q2, q3⟩ := oHR_c h he hi
  try simp only
  rw [q1, q2, q3]
  omega
