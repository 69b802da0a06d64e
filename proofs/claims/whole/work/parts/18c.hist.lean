/-! the history as a list, the oldest first -/
def oHis (σ : oM) (yC : Nat) (Lh : List (Nat → Int)) : Prop := ∃ on sn : Nat, σ yC 1 = (on : Int) ∧ on < 9 ∧ σ yC 2 = (sn : Int) ∧ sn = Lh.length ∧ sn ≤ 8 ∧ ∀ (kx : Nat) (B : Nat → Int), Lh[kx]? = some B → oHR σ (yC + 2 + 104 * ((on + kx) % 9)) B
def hpush (Lh : List (Nat → Int)) (A : Nat → Int) : List (Nat → Int) := (if Lh.length = 8 then Lh.drop 1 else Lh) ++ [A]
theorem oHis_push {σ σ1 : oM} {yC on sn : Nat} {Lh : List (Nat → Int)} {A : Nat → Int} (ho : σ1 yC 1 = (on : Int)) (ho9 : on < 9) (hs : σ1 yC 2 = (sn : Int)) (hl : sn = Lh.length) (h8 : sn ≤ 8) (hr : ∀ (kx : Nat) (B : Nat → Int), Lh[kx]? = some B → oHR σ (yC + 2 + 104 * ((on + kx) % 9)) B) (hb : ∀ B ∈ Lh, nEd B ≤ 6 ∧ nLn B ≤ 20) (hbA : nEd A ≤ 6 ∧ nLn A ≤ 20) (hf : ∀ x, x < yC + 2 + 104 * ((on + sn) % 9) ∨ yC + 2 + 104 * ((on + sn) % 9) + 104 ≤ x → σ1 x = σ x) (hA : oHR σ1 (yC + 2 + 104 * ((on + sn) % 9)) A) :
    oHis (if sn < 8 then o_up σ1 yC 2 ((sn : Int) + 1) else o_up σ1 yC 1 ((((on + 1) % 9 : Nat)) : Int)) yC (hpush Lh A) := by
  have hold : ∀ (kx : Nat) (B : Nat → Int), Lh[kx]? = some B → oHR σ1 (yC + 2 + 104 * ((on + kx) % 9)) B := fun kx B hB => by
    have hlt := (List.getElem?_eq_some_iff.mp hB).1
    exact oHR_fr (hr kx B hB) (hb B (List.mem_of_getElem? hB)) (fun x h1 h2 => hf x (by omega))
  have hup : ∀ (fx : Nat) (v : Int) (rx : Nat) (B : Nat → Int), nEd B ≤ 6 ∧ nLn B ≤ 20 → oHR σ1 (yC + 2 + 104 * rx) B → oHR (o_up σ1 yC fx v) (yC + 2 + 104 * rx) B := fun fx v rx B hn h => oHR_fr h hn (fun x h1 h2 => o_up_ne (by omega))
  by_cases hc : sn < 8
  · rw [if_pos hc]
    refine ⟨on, sn + 1, by rw [o_up_nj (Or.inr (by decide))]; exact ho, ho9, by rw [o_up_at]; rfl, ?_, by omega, fun kx B hB => ?_⟩
    · unfold hpush
      rw [if_neg (by omega), List.length_append, List.length_cons, List.length_nil]
      omega
    · unfold hpush at hB
      rw [if_neg (by omega)] at hB
      by_cases hk : kx < Lh.length
      · rw [List.getElem?_append_left hk] at hB
        exact hup _ _ _ _ (hb B (List.mem_of_getElem? hB)) (hold kx B hB)
      · rw [List.getElem?_append_right (by omega)] at hB
        have hk2 := (List.getElem?_eq_some_iff.mp hB).1
        rw [List.length_cons, List.length_nil] at hk2
        obtain rfl : kx = sn := by omega
        rw [show kx - Lh.length = 0 by omega] at hB
        cases hB
        exact hup _ _ _ _ hbA hA
  · rw [if_neg hc]
    refine ⟨(on + 1) % 9, sn, by rw [o_up_at], by omega, by rw [o_up_nj (Or.inr (by decide))]; exact hs, ?_, h8, fun kx B hB => ?_⟩
    · unfold hpush
      rw [if_pos (by omega), List.length_append, List.length_drop, List.length_cons, List.length_nil]
      omega
    · unfold hpush at hB
      rw [if_pos (by omega)] at hB
      by_cases hk : kx < 7
      · rw [List.getElem?_append_left (by rw [List.length_drop]; omega), List.getElem?_drop] at hB
        have h1 := hold (1 + kx) B hB
        rw [show (on + (1 + kx)) % 9 = ((on + 1) % 9 + kx) % 9 by omega] at h1
        exact hup _ _ _ _ (hb B (List.mem_of_getElem? hB)) h1
      · rw [List.getElem?_append_right (by rw [List.length_drop]; omega), List.length_drop] at hB
        have hk2 := (List.getElem?_eq_some_iff.mp hB).1
        rw [List.length_cons, List.length_nil] at hk2
        obtain rfl : kx = 7 := by omega
        rw [show 7 - (Lh.length - 1) = 0 by omega] at hB
        cases hB
        rw [show ((on + 1) % 9 + 7) % 9 = (on + sn) % 9 by omega]
        exact hup _ _ _ _ hbA hA
