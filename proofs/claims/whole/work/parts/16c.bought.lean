theorem oI_grow {Bd B2 : Int} {A : Nat → Int} (h : oI Bd A) (h1 : Bd ≤ B2) (h2 : B2 ≤ 100000000) : oI B2 A := by
  obtain ⟨g0, g1, g2, g3, g4, g5, g6, g7, g8⟩ := h
  refine ⟨by omega, g1, g2, g3, fun wx hw => ?_, g5, fun lx hl => ?_, fun ex he => ?_, g8⟩
  · have := g4 wx hw
    omega
  · obtain ⟨q0, q1, q2, q3, q4, q5, q6, q7⟩ := g6 lx hl
    exact ⟨q0, q1, q2, q3, q4, q5, ⟨q6.1, by omega⟩, ⟨q7.1, by omega⟩⟩
  · obtain ⟨q0, q1, q2, q3, q4⟩ := g7 ex he
    refine ⟨q0, q1, q2, fun ix hi => ?_, fun jx j1 j2 => ?_⟩
    · have := q3 ix hi
      omega
    · obtain ⟨r0, r1, r2, r3, r4⟩ := q4 jx j1 j2
      exact ⟨⟨r0.1, by omega⟩, ⟨r1.1, by omega⟩, r2, r3, r4⟩
/-- all copies bought of an edition -/
def boughtF (A : Nat → Int) (ex : Nat) : Int := sumF (fun ix => A (180 + 813 * ex + 3 * ix)) 6
theorem boughtF_in {Bd : Int} {A : Nat → Int} {ex : Nat} (h : oI Bd A) (he : ex < nEd A) : 0 ≤ boughtF A ex ∧ boughtF A ex ≤ 180 := by
  have h1 := sumF_in (f := fun ix => A (180 + 813 * ex + 3 * ix)) (lo := 0) (hi := 30) (n := 6) (fun i hi => ((oI_b h he).1.2.2.2.1 i hi).1)
  unfold boughtF
  omega
theorem oI_upV {Bd : Int} {wN : Nat} {A : Nat → Int} {tx : Int} (h : oI Bd A) (hwN : wN < 4) (hv : 0 ≤ tx ∧ tx ≤ Bd) : oI Bd (updF A (7 + wN) tx) := by
  have hn := oI_n h
  have eNd : nEd (updF A (7 + wN) tx) = nEd A := by
    unfold nEd
    rw [updF_ne (by omega)]
  have eM : nLn (updF A (7 + wN) tx) = nLn A := by
    unfold nLn
    rw [updF_ne (by omega)]
  have eB : ∀ ex, nBr (updF A (7 + wN) tx) ex = nBr A ex := fun ex => by
    unfold nBr
    rw [updF_ne (by omega)]
  refine oI_mk ?_ ?_ ?_ ?_ (fun wx hw => ?_) (fun wx hw => ?_) (fun ix hi => ?_) (fun lx hl kx hk => ?_) (fun ex he => ?_) (fun ex he ix hi => ?_) (fun ex he jx j1 j2 kx hk => ?_) ?_
  · exact h.1
  · rw [updF_ne (by omega)]
    exact h.2.1
  · rw [updF_ne (by omega)]
    exact h.2.2.1
  · rw [updF_ne (by omega)]
    exact h.2.2.2.1
  · rw [updF_ne (by omega)]
    exact (h.2.2.2.2.1 wx hw).1
  · by_cases hc : wx = wN
    · subst hc
      rw [updF_at]
      exact hv
    · rw [updF_ne (by omega)]
      exact (h.2.2.2.2.1 wx hw).2
  · rw [updF_ne (by omega)]
    exact h.2.2.2.2.2.1 ix hi
  · rw [eM] at hl
    rw [updF_ne (by omega), updF_ne (by omega)]
    exact oI_l h hl hk
  · rw [eNd] at he
    rw [updF_ne (by omega), updF_ne (by omega), updF_ne (by omega)]
    exact ⟨(oI_b h he).1.1, (oI_b h he).1.2.1, (oI_b h he).1.2.2.1⟩
  · rw [eNd] at he
    rw [updF_ne (by omega), updF_ne (by omega), updF_ne (by omega)]
    exact (oI_b h he).1.2.2.2.1 ix hi
  · rw [eNd] at he
    rw [eB] at j2
    have hB9x := (oI_b h he).2.2.2
    rw [updF_ne (by omega)]
    exact oI_r h he j1 j2 hk
  · obtain ⟨pos, hpos⟩ := h.2.2.2.2.2.2.2.2
    refine ⟨pos, fun ex he jx j1 j2 => ?_⟩
    rw [eNd] at he
    rw [eB] at j2
    have hB9x := (oI_b h he).2.2.2
    have hw3 := (oI_b h he).1.1
    have hp := hpos ex he jx j1 j2
    have e1 : (updF A (7 + wN) tx) (177 + 813 * ex) = A (177 + 813 * ex) := by rw [updF_ne (by omega)]
    have e2 : (updF A (7 + wN) tx) (190 + 813 * ex + 8 * jx) = A (190 + 813 * ex + 8 * jx) := by rw [updF_ne (by omega)]
    rw [e1, e2]
    refine ⟨?_, fun kx k1 k2 => ?_⟩
    · rw [updF_ne (by omega)]
      exact hp.1
    · rw [eB] at k2
      rw [updF_ne (by omega)]
      exact hp.2 kx k1 k2
