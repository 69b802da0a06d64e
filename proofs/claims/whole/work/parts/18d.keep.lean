/-- what History.keep leaves: the holdings as they were, one more row in the history -/
theorem keep_of {σ σ1 σ2 : oM} {yC sC on sn : Nat} {Lh : List (Nat → Int)} {A : Nat → Int} (hdis : sC + 104 ≤ yC) (hR : oHR σ sC A) (hn : nEd A ≤ 6 ∧ nLn A ≤ 20) (ho : σ yC 1 = (on : Int)) (ho9 : on < 9) (hs : σ yC 2 = (sn : Int)) (hl : sn = Lh.length) (h8 : sn ≤ 8) (hr : ∀ (kx : Nat) (B : Nat → Int), Lh[kx]? = some B → oHR σ (yC + 2 + 104 * ((on + kx) % 9)) B) (hb : ∀ B ∈ Lh, nEd B ≤ 6 ∧ nLn B ≤ 20)
  (hk : hdLike σ1 (yC + 2 + 104 * ((on + sn) % 9)) σ sC (nEd A) (nLn A)) (h2 : σ2 = if sn < 8 then o_up σ1 yC 2 ((sn : Int) + 1) else o_up σ1 yC 1 ((((on + 1) % 9 : Nat)) : Int)) :
    oHR σ2 sC A ∧ oHis σ2 yC (hpush Lh A) ∧ ∀ x, (x < yC ∨ yC + 938 ≤ x) → σ2 x = σ x := by
  have hA := hdLike_HR hk hR
  obtain ⟨-, -, -, -, -, -, -, hf⟩ := hk
  have hy := hf yC (Or.inl (by omega))
  have hp := oHis_push (σ := σ) (σ1 := σ1) (yC := yC) (Lh := Lh) (A := A) (by rw [hy]; exact ho) ho9 (by rw [hy]; exact hs) hl h8 hr hb hn hf hA
  rw [← h2] at hp
  have hfr : ∀ x, (x < yC ∨ yC + 938 ≤ x) → σ2 x = σ x := fun x hx => by
    rw [h2]
    split
    · rw [o_up_ne (by omega)]
      exact hf x (by omega)
    · rw [o_up_ne (by omega)]
      exact hf x (by omega)
  exact ⟨oHR_fr hR hn (fun x h1 h2 => hfr x (by omega)), hp, hfr⟩
