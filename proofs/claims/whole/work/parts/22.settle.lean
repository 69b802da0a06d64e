/-- a call that prepares, changes and settles -/
theorem settle_of {σ σ1 σ2 σ3 : oM} {xC on sn : Nat} {Lh : List (Nat → Int)} {A A2 : Nat → Int} {rf z : Int} (hR : oHR σ (xC + 1) A) (hn : nEd A ≤ 6 ∧ nLn A ≤ 20) (hn2 : nEd A2 ≤ 6 ∧ nLn A2 ≤ 20) (ho : σ (xC + 209) 1 = (on : Int)) (ho9 : on < 9) (hs : σ (xC + 209) 2 = (sn : Int)) (hl : sn = Lh.length) (h8 : sn ≤ 8) (hr : ∀ (kx : Nat) (B : Nat → Int), Lh[kx]? = some B → oHR σ (xC + 209 + 2 + 104 * ((on + kx) % 9)) B) (hb : ∀ B ∈ Lh, nEd B ≤ 6 ∧ nLn B ≤ 20)
  (hk : hdLike σ1 (xC + 209 + 2 + 104 * ((on + sn) % 9)) σ (xC + 1) (nEd A) (nLn A)) (hc : oCh σ1 σ2 xC A2 rf) (h3 : σ3 = if z < 0 ∧ z ≠ -7 then σ2 else if sn < 8 then o_up σ2 (xC + 209) 2 ((sn : Int) + 1) else o_up σ2 (xC + 209) 1 ((((on + 1) % 9 : Nat)) : Int)) :
    oCk σ σ3 xC A2 (if z < 0 ∧ z ≠ -7 then Lh else hpush Lh A) rf := by
  have hA := hdLike_HR hk hR
  obtain ⟨-, -, -, -, -, -, -, hf⟩ := hk
  obtain ⟨c1x, c2x, c3x, c4x⟩ := hc
  have hy2 : σ2 (xC + 209) = σ (xC + 209) := (c2x _ (by omega) (by omega)).trans (hf _ (by omega))
  have hout : ∀ x, x ≠ xC → (x < xC + 1 ∨ (xC + 105 ≤ x ∧ x < xC + 211) ∨ xC + 1147 ≤ x) → σ2 x = σ x := fun x g1 g2 => (c2x x g1 (by omega)).trans (hf x (by omega))
  have hrows : ∀ (kx : Nat) (B : Nat → Int), Lh[kx]? = some B → oHR σ2 (xC + 209 + 2 + 104 * ((on + kx) % 9)) B := fun kx B hB => by
    have hlt := (List.getElem?_eq_some_iff.mp hB).1
    exact oHR_fr (hr kx B hB) (hb B (List.mem_of_getElem? hB)) (fun x g1 g2 => (c2x x (by omega) (by omega)).trans (hf x (by omega)))
  have hA2 : oHR σ2 (xC + 209 + 2 + 104 * ((on + sn) % 9)) A := oHR_fr hA hn (fun x g1 g2 => c2x x (by omega) (by omega))
  have hx : ∀ kx, kx ≠ 10 → σ2 xC kx = σ xC kx := fun kx g => by rw [c3x kx g, hf xC (by omega)]
  rw [h3]
  by_cases he : z < 0 ∧ z ≠ -7
  · rw [if_pos he, if_pos he]
    exact ⟨c1x, ⟨on, sn, by rw [hy2]; exact ho, ho9, by rw [hy2]; exact hs, hl, h8, hrows⟩, fun x g1 g2 => hout x g1 (by omega), hx, c4x⟩
  · rw [if_neg he, if_neg he]
    have hp := oHis_push (σ := σ2) (σ1 := σ2) (yC := xC + 209) (by rw [hy2]; exact ho) ho9 (by rw [hy2]; exact hs) hl h8 hrows hb hn (fun _ _ => rfl) hA2
    have hup : ∀ x, x ≠ xC + 209 → (if sn < 8 then o_up σ2 (xC + 209) 2 ((sn : Int) + 1) else o_up σ2 (xC + 209) 1 ((((on + 1) % 9 : Nat)) : Int)) x = σ2 x := fun x g => by
      split
      · exact o_up_ne g
      · exact o_up_ne g
    exact ⟨oHR_fr c1x hn2 (fun x g1 g2 => hup x (by omega)), hp, fun x g1 g2 => by rw [hup x (by omega)]; exact hout x g1 (by omega), fun kx g => by rw [hup xC (by omega)]; exact hx kx g, by rw [hup xC (by omega)]; exact c4x⟩
