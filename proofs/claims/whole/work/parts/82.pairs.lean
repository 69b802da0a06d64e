/-! a call of the class and the same call of the reference -/
def oLS (T : oT) (σ : oM) (xC mC : Nat) (Bd : Int) : Prop := ∃ (A : Nat → Int) (Lh : List (Nat → Int)) (sv : Option (Nat → Int)) (rf : Int) (tl : oTold) (bx : oBoxes) (nI : Nat) (f : Nat → Int) (fl fd : Int), oRC T σ xC A Lh sv rf tl bx nI f fl fd ∧ oRM T σ mC A Lh sv rf tl bx nI f fl fd ∧ oRI Bd A Lh sv
theorem oMm_len {T : oT} {mC : Nat} (h : oMm T mC) : mC + 17 ≤ T.1 := by
  unfold oMm at h
  exact h.2.2.2.2.2.2.2.2.2.2.2.2.2.2.2.2.2.2.2.2.2.2.2.2.2.2.2.2.2.2.2.2.2
theorem oLS_sh {T : oT} {σ : oM} {xC mC : Nat} {Bd : Int} (h : oLS T σ xC mC Bd) : T.2.1 xC = (8, 0) ∧ xC < T.1 ∧ T.2.1 mC = (9, 0) ∧ mC < T.1 := by
  obtain ⟨A, Lh, sv, rf, tl, bx, nI, f, fl, fd, hC, hM, hI⟩ := h
  have h1 := oMm_len hM.1
  have h2 := hC.1
  unfold oX at h2
  exact ⟨h2.1, by have := h2.2.2.2.2.2.2.2.2.2.2.2.2.2.2.2.2; omega, hM.1.1, by omega⟩
theorem oRI_grow {Bd : Int} {A : Nat → Int} {Lh : List (Nat → Int)} {sv : Option (Nat → Int)} (h : oRI Bd A Lh sv) (hB : Bd ≤ 99000000) : oRI (Bd + 162000) A Lh sv := ⟨IJ_grow h.1 (by omega) (by omega), fun B hm => IJ_grow (h.2.1 B hm) (by omega) (by omega), fun B hs => IJ_grow (h.2.2 B hs) (by omega) (by omega)⟩
theorem oLS_grow {T : oT} {σ : oM} {xC mC : Nat} {Bd : Int} (h : oLS T σ xC mC Bd) (hB : Bd ≤ 99000000) : oLS T σ xC mC (Bd + 162000) := by
  obtain ⟨A, Lh, sv, rf, tl, bx, nI, f, fl, fd, hC, hM, hI⟩ := h
  exact ⟨A, Lh, sv, rf, tl, bx, nI, f, fl, fd, hC, hM, oRI_grow hI hB⟩
theorem oBk_of {σ : oM} {xC : Nat} {bx : oBoxes} (h : oBR σ xC bx) : oBk bx := fun ix hi => ⟨(h ix hi).1.2, (h ix hi).2.1.2, fun px hp => ⟨((h ix hi).2.2 px hp).2.2.1, ((h ix hi).2.2 px hp).1.2⟩⟩
/-- from this state: the class's call answers, then the reference's the same, and the state stands again -/
def oPR (y8 : MethodName) (c8 : ByteArray) (n8 fr8 lc8 : Nat) (y9 : MethodName) (c9 : ByteArray) (n9 fr9 mc9 ms9 lc9 : Nat) (xC mC : Nat) (As : List oV) (T : oT) (σ : oM) (Bd : Int) : Prop :=
  ∃ Po1, MS y8 c8 n8 (some FieldType.int) fr8 0 0 lc8 (og xC :: As) T σ Po1 ∧ ∀ r T2 σ2, Po1 r T2 σ2 → T2 = T ∧ ∃ z, r = some (oi z) ∧ ∃ Po2, MS y9 c9 n9 (some FieldType.int) fr9 mc9 ms9 lc9 (og mC :: As) T σ2 Po2 ∧ ∀ r3 T3 σ3, Po2 r3 T3 σ3 → r3 = some (oi z) ∧ oLS T3 σ3 xC mC (Bd + 162000)
theorem pr_rd {y8 y9 : MethodName} {c8 c9 : ByteArray} {n8 fr8 lc8 n9 fr9 lc9 xC mC : Nat} {As : List oV} {T : oT} {σ : oM} {Bd v : Int} (hS : oLS T σ xC mC Bd) (hB : Bd ≤ 99000000) (h1 : MS y8 c8 n8 (some FieldType.int) fr8 0 0 lc8 (og xC :: As) T σ (oP1 (oi v) T σ)) (h2 : MS y9 c9 n9 (some FieldType.int) fr9 0 0 lc9 (og mC :: As) T σ (oP1 (oi v) T σ)) : oPR y8 c8 n8 fr8 lc8 y9 c9 n9 fr9 0 0 lc9 xC mC As T σ Bd := by
  refine ⟨_, h1, fun r T2 σ2 h => ?_⟩
  obtain ⟨a1, a2, a3⟩ := h
  refine ⟨a2, v, a1, ?_⟩
  rw [a3]
  refine ⟨_, h2, fun r3 T3 σ3 h3 => ?_⟩
  obtain ⟨b1, b2, b3⟩ := h3
  rw [b2, b3]
  exact ⟨b1, oLS_grow hS hB⟩
theorem pr_ofEdition {T : oT} {σ : oM} {xC mC : Nat} {Bd : Int} (hS : oLS T σ xC mC Bd) (hmx : xC + 1227 ≤ mC) (hB : Bd ≤ 99000000) {z v : Int} (hzq : o_r z) (hvq : o_r v) : oPR yX8_ofEdition cX8_ofEdition 4 2 45 yX9_ofEdition cX9_ofEdition 5 3 0 0 66 xC mC [oi z, oi v] T σ Bd := by
  have hS0 := hS
  obtain ⟨A, Lh, sv, rf, tl, bx, nI, f, fl, fd, hC, hM, hI⟩ := hS
  have hA := hM.2.1
  subst hA
  have hCc := hC
  obtain ⟨hX, hTx, hR, hH, hSv, hTl, hBR, hIn, h10, h8, h9⟩ := hCc
  have hbL : ∀ B ∈ Lh, nEd B ≤ 6 ∧ nLn B ≤ 20 := fun B hm => ⟨(oI_n (hI.2.1 B hm).1).2.2.1, (oI_n (hI.2.1 B hm).1).2.2.2⟩
  exact pr_rd hS0 hB (c_X8_ofEdition hX hR hI.1.1 hzq hvq) (c_X9_ofEdition hM.1 hI.1.1 hzq hvq)
theorem pr_bar {T : oT} {σ : oM} {xC mC : Nat} {Bd : Int} (hS : oLS T σ xC mC Bd) (hmx : xC + 1227 ≤ mC) (hB : Bd ≤ 99000000) {z v w : Int} (hzq : o_r z) (hvq : o_r v) (hwq : o_r w) : oPR yX8_bar cX8_bar 5 3 65 yX9_bar cX9_bar 4 3 0 0 65 xC mC [oi z, oi v, oi w] T σ Bd := by
  have hS0 := hS
  obtain ⟨A, Lh, sv, rf, tl, bx, nI, f, fl, fd, hC, hM, hI⟩ := hS
  have hA := hM.2.1
  subst hA
  have hCc := hC
  obtain ⟨hX, hTx, hR, hH, hSv, hTl, hBR, hIn, h10, h8, h9⟩ := hCc
  have hbL : ∀ B ∈ Lh, nEd B ≤ 6 ∧ nLn B ≤ 20 := fun B hm => ⟨(oI_n (hI.2.1 B hm).1).2.2.1, (oI_n (hI.2.1 B hm).1).2.2.2⟩
  exact pr_rd hS0 hB (c_X8_bar hX hR hI.1.1 hzq hvq hwq) (c_X9_bar hM.1 hI.1.1 hzq hvq hwq)
theorem pr_carry {T : oT} {σ : oM} {xC mC : Nat} {Bd : Int} (hS : oLS T σ xC mC Bd) (hmx : xC + 1227 ≤ mC) (hB : Bd ≤ 99000000) {z v w : Int} (hzq : o_r z) (hvq : o_r v) (hwq : o_r w) : oPR yX8_carry cX8_carry 5 3 65 yX9_carry cX9_carry 4 3 0 0 66 xC mC [oi z, oi v, oi w] T σ Bd := by
  have hS0 := hS
  obtain ⟨A, Lh, sv, rf, tl, bx, nI, f, fl, fd, hC, hM, hI⟩ := hS
  have hA := hM.2.1
  subst hA
  have hCc := hC
  obtain ⟨hX, hTx, hR, hH, hSv, hTl, hBR, hIn, h10, h8, h9⟩ := hCc
  have hbL : ∀ B ∈ Lh, nEd B ≤ 6 ∧ nLn B ≤ 20 := fun B hm => ⟨(oI_n (hI.2.1 B hm).1).2.2.1, (oI_n (hI.2.1 B hm).1).2.2.2⟩
  exact pr_rd hS0 hB (c_X8_carry hX hR hI.1.1 hzq hvq hwq) (c_X9_carry hM.1 hI.1.1 hzq hvq hwq)
theorem pr_seconds {T : oT} {σ : oM} {xC mC : Nat} {Bd : Int} (hS : oLS T σ xC mC Bd) (hmx : xC + 1227 ≤ mC) (hB : Bd ≤ 99000000) {z v w : Int} (hzq : o_r z) (hvq : o_r v) (hwq : o_r w) : oPR yX8_seconds cX8_seconds 4 3 65 yX9_seconds cX9_seconds 4 4 0 0 90 xC mC [oi z, oi v, oi w] T σ Bd := by
  have hS0 := hS
  obtain ⟨A, Lh, sv, rf, tl, bx, nI, f, fl, fd, hC, hM, hI⟩ := hS
  have hA := hM.2.1
  subst hA
  have hCc := hC
  obtain ⟨hX, hTx, hR, hH, hSv, hTl, hBR, hIn, h10, h8, h9⟩ := hCc
  have hbL : ∀ B ∈ Lh, nEd B ≤ 6 ∧ nLn B ≤ 20 := fun B hm => ⟨(oI_n (hI.2.1 B hm).1).2.2.1, (oI_n (hI.2.1 B hm).1).2.2.2⟩
  exact pr_rd hS0 hB (c_X8_seconds hX hR hI.1.1 hzq hvq hwq) (c_X9_seconds hM.1 hI.1.1 hzq hvq hwq)
theorem pr_length {T : oT} {σ : oM} {xC mC : Nat} {Bd : Int} (hS : oLS T σ xC mC Bd) (hmx : xC + 1227 ≤ mC) (hB : Bd ≤ 99000000) {z : Int} (hzq : o_r z) : oPR yX8_length cX8_length 2 3 67 yX9_length cX9_length 2 4 0 0 90 xC mC [oi z] T σ Bd := by
  have hS0 := hS
  obtain ⟨A, Lh, sv, rf, tl, bx, nI, f, fl, fd, hC, hM, hI⟩ := hS
  have hA := hM.2.1
  subst hA
  have hCc := hC
  obtain ⟨hX, hTx, hR, hH, hSv, hTl, hBR, hIn, h10, h8, h9⟩ := hCc
  have hbL : ∀ B ∈ Lh, nEd B ≤ 6 ∧ nLn B ≤ 20 := fun B hm => ⟨(oI_n (hI.2.1 B hm).1).2.2.1, (oI_n (hI.2.1 B hm).1).2.2.2⟩
  exact pr_rd hS0 hB (c_X8_length hX hR hI.1.1 hzq) (c_X9_length hM.1 hI.1.1 hzq)
theorem pr_barAt {T : oT} {σ : oM} {xC mC : Nat} {Bd : Int} (hS : oLS T σ xC mC Bd) (hmx : xC + 1227 ≤ mC) (hB : Bd ≤ 99000000) {z v : Int} (hzq : o_r z) (hvq : o_r v) : oPR yX8_barAt cX8_barAt 4 2 45 yX9_barAt cX9_barAt 4 4 0 0 90 xC mC [oi z, oi v] T σ Bd := by
  have hS0 := hS
  obtain ⟨A, Lh, sv, rf, tl, bx, nI, f, fl, fd, hC, hM, hI⟩ := hS
  have hA := hM.2.1
  subst hA
  have hCc := hC
  obtain ⟨hX, hTx, hR, hH, hSv, hTl, hBR, hIn, h10, h8, h9⟩ := hCc
  have hbL : ∀ B ∈ Lh, nEd B ≤ 6 ∧ nLn B ≤ 20 := fun B hm => ⟨(oI_n (hI.2.1 B hm).1).2.2.1, (oI_n (hI.2.1 B hm).1).2.2.2⟩
  exact pr_rd hS0 hB (c_X8_barAt hX hR hI.1.1 hzq hvq) (c_X9_barAt hM.1 hI.1.1 hzq hvq)
theorem pr_pace {T : oT} {σ : oM} {xC mC : Nat} {Bd : Int} (hS : oLS T σ xC mC Bd) (hmx : xC + 1227 ≤ mC) (hB : Bd ≤ 99000000) {z : Int} (hzq : o_r z) : oPR yX8_pace cX8_pace 3 3 67 yX9_pace cX9_pace 4 4 0 0 90 xC mC [oi z] T σ Bd := by
  have hS0 := hS
  obtain ⟨A, Lh, sv, rf, tl, bx, nI, f, fl, fd, hC, hM, hI⟩ := hS
  have hA := hM.2.1
  subst hA
  have hCc := hC
  obtain ⟨hX, hTx, hR, hH, hSv, hTl, hBR, hIn, h10, h8, h9⟩ := hCc
  have hbL : ∀ B ∈ Lh, nEd B ≤ 6 ∧ nLn B ≤ 20 := fun B hm => ⟨(oI_n (hI.2.1 B hm).1).2.2.1, (oI_n (hI.2.1 B hm).1).2.2.2⟩
  exact pr_rd hS0 hB (c_X8_pace hX hR hI.1.1 hzq) (c_X9_pace hM.1 hI.1.1 hzq)
theorem pr_needs {T : oT} {σ : oM} {xC mC : Nat} {Bd : Int} (hS : oLS T σ xC mC Bd) (hmx : xC + 1227 ≤ mC) (hB : Bd ≤ 99000000) {z : Int} (hzq : o_r z) : oPR yX8_needs cX8_needs 2 2 42 yX9_needs cX9_needs 3 2 0 0 42 xC mC [oi z] T σ Bd := by
  have hS0 := hS
  obtain ⟨A, Lh, sv, rf, tl, bx, nI, f, fl, fd, hC, hM, hI⟩ := hS
  have hA := hM.2.1
  subst hA
  have hCc := hC
  obtain ⟨hX, hTx, hR, hH, hSv, hTl, hBR, hIn, h10, h8, h9⟩ := hCc
  have hbL : ∀ B ∈ Lh, nEd B ≤ 6 ∧ nLn B ≤ 20 := fun B hm => ⟨(oI_n (hI.2.1 B hm).1).2.2.1, (oI_n (hI.2.1 B hm).1).2.2.2⟩
  exact pr_rd hS0 hB (c_X8_needs hX hR hI.1.1 hzq) (c_X9_needs hM.1 hI.1.1 hzq)
theorem pr_stock {T : oT} {σ : oM} {xC mC : Nat} {Bd : Int} (hS : oLS T σ xC mC Bd) (hmx : xC + 1227 ≤ mC) (hB : Bd ≤ 99000000) {z v w : Int} (hzq : o_r z) (hvq : o_r v) (hwq : o_r w) : oPR yX8_stock cX8_stock 4 2 43 yX9_stock cX9_stock 4 3 0 0 65 xC mC [oi z, oi v, oi w] T σ Bd := by
  have hS0 := hS
  obtain ⟨A, Lh, sv, rf, tl, bx, nI, f, fl, fd, hC, hM, hI⟩ := hS
  have hA := hM.2.1
  subst hA
  have hCc := hC
  obtain ⟨hX, hTx, hR, hH, hSv, hTl, hBR, hIn, h10, h8, h9⟩ := hCc
  have hbL : ∀ B ∈ Lh, nEd B ≤ 6 ∧ nLn B ≤ 20 := fun B hm => ⟨(oI_n (hI.2.1 B hm).1).2.2.1, (oI_n (hI.2.1 B hm).1).2.2.2⟩
  exact pr_rd hS0 hB (c_X8_stock hX hR hI.1.1 hzq hvq hwq) (c_X9_stock hM.1 hI.1.1 hzq hvq hwq)
theorem pr_bowing {T : oT} {σ : oM} {xC mC : Nat} {Bd : Int} (hS : oLS T σ xC mC Bd) (hmx : xC + 1227 ≤ mC) (hB : Bd ≤ 99000000) {z v w : Int} (hzq : o_r z) (hvq : o_r v) (hwq : o_r w) : oPR yX8_bowing cX8_bowing 4 3 65 yX9_bowing cX9_bowing 4 3 0 0 65 xC mC [oi z, oi v, oi w] T σ Bd := by
  have hS0 := hS
  obtain ⟨A, Lh, sv, rf, tl, bx, nI, f, fl, fd, hC, hM, hI⟩ := hS
  have hA := hM.2.1
  subst hA
  have hCc := hC
  obtain ⟨hX, hTx, hR, hH, hSv, hTl, hBR, hIn, h10, h8, h9⟩ := hCc
  have hbL : ∀ B ∈ Lh, nEd B ≤ 6 ∧ nLn B ≤ 20 := fun B hm => ⟨(oI_n (hI.2.1 B hm).1).2.2.1, (oI_n (hI.2.1 B hm).1).2.2.2⟩
  exact pr_rd hS0 hB (c_X8_bowing hX hR hI.1.1 hzq hvq hwq) (c_X9_bowing hM.1 hI.1.1 hzq hvq hwq)
theorem pr_loan {T : oT} {σ : oM} {xC mC : Nat} {Bd : Int} (hS : oLS T σ xC mC Bd) (hmx : xC + 1227 ≤ mC) (hB : Bd ≤ 99000000) {z v : Int} (hzq : o_r z) (hvq : o_r v) : oPR yX8_loan cX8_loan 4 2 43 yX9_loan cX9_loan 3 2 0 0 42 xC mC [oi z, oi v] T σ Bd := by
  have hS0 := hS
  obtain ⟨A, Lh, sv, rf, tl, bx, nI, f, fl, fd, hC, hM, hI⟩ := hS
  have hA := hM.2.1
  subst hA
  have hCc := hC
  obtain ⟨hX, hTx, hR, hH, hSv, hTl, hBR, hIn, h10, h8, h9⟩ := hCc
  have hbL : ∀ B ∈ Lh, nEd B ≤ 6 ∧ nLn B ≤ 20 := fun B hm => ⟨(oI_n (hI.2.1 B hm).1).2.2.1, (oI_n (hI.2.1 B hm).1).2.2.2⟩
  exact pr_rd hS0 hB (c_X8_loan hX hR hI.1.1 hzq hvq) (c_X9_loan hM.1 hI.1.1 hzq hvq)
theorem pr_overdue {T : oT} {σ : oM} {xC mC : Nat} {Bd : Int} (hS : oLS T σ xC mC Bd) (hmx : xC + 1227 ≤ mC) (hB : Bd ≤ 99000000) {z : Int} (hzq : o_r z) : oPR yX8_overdue cX8_overdue 2 3 67 yX9_overdue cX9_overdue 5 2 0 0 42 xC mC [oi z] T σ Bd := by
  have hS0 := hS
  obtain ⟨A, Lh, sv, rf, tl, bx, nI, f, fl, fd, hC, hM, hI⟩ := hS
  have hA := hM.2.1
  subst hA
  have hCc := hC
  obtain ⟨hX, hTx, hR, hH, hSv, hTl, hBR, hIn, h10, h8, h9⟩ := hCc
  have hbL : ∀ B ∈ Lh, nEd B ≤ 6 ∧ nLn B ≤ 20 := fun B hm => ⟨(oI_n (hI.2.1 B hm).1).2.2.1, (oI_n (hI.2.1 B hm).1).2.2.2⟩
  exact pr_rd hS0 hB (c_X8_overdue hX hR hI.1.1 hzq) (c_X9_overdue hM.1 hI.1.1 hzq)
theorem pr_borrower {T : oT} {σ : oM} {xC mC : Nat} {Bd : Int} (hS : oLS T σ xC mC Bd) (hmx : xC + 1227 ≤ mC) (hB : Bd ≤ 99000000) {z v : Int} (hzq : o_r z) (hvq : o_r v) : oPR yX8_borrower cX8_borrower 3 3 67 yX9_borrower cX9_borrower 5 2 0 0 42 xC mC [oi z, oi v] T σ Bd := by
  have hS0 := hS
  obtain ⟨A, Lh, sv, rf, tl, bx, nI, f, fl, fd, hC, hM, hI⟩ := hS
  have hA := hM.2.1
  subst hA
  have hCc := hC
  obtain ⟨hX, hTx, hR, hH, hSv, hTl, hBR, hIn, h10, h8, h9⟩ := hCc
  have hbL : ∀ B ∈ Lh, nEd B ≤ 6 ∧ nLn B ≤ 20 := fun B hm => ⟨(oI_n (hI.2.1 B hm).1).2.2.1, (oI_n (hI.2.1 B hm).1).2.2.2⟩
  exact pr_rd hS0 hB (c_X8_borrower hX hR hI.1.1 hzq hvq) (c_X9_borrower hM.1 hI.1.1 hzq hvq)
theorem pr_count {T : oT} {σ : oM} {xC mC : Nat} {Bd : Int} (hS : oLS T σ xC mC Bd) (hmx : xC + 1227 ≤ mC) (hB : Bd ≤ 99000000) {z : Int} (hzq : o_r z) : oPR yX8_count cX8_count 2 3 68 yX9_count cX9_count 2 5 0 0 112 xC mC [oi z] T σ Bd := by
  have hS0 := hS
  obtain ⟨A, Lh, sv, rf, tl, bx, nI, f, fl, fd, hC, hM, hI⟩ := hS
  have hA := hM.2.1
  subst hA
  have hCc := hC
  obtain ⟨hX, hTx, hR, hH, hSv, hTl, hBR, hIn, h10, h8, h9⟩ := hCc
  have hbL : ∀ B ∈ Lh, nEd B ≤ 6 ∧ nLn B ≤ 20 := fun B hm => ⟨(oI_n (hI.2.1 B hm).1).2.2.1, (oI_n (hI.2.1 B hm).1).2.2.2⟩
  obtain ⟨on, sn, g1, g2, g3, g4, g5, g6⟩ := hH
  have e4 : σ (xC + 209) 2 = σ mC 4 := by rw [g3, g4, hM.2.2.1.1]
  have e21 : σ (xC + 1163) 1 = σ mC 21 := by rw [hIn.1, hM.2.2.2.2.2.2.1]
  exact pr_rd hS0 hB (c_X8_count hX hR hI.1.1 hzq e4 e21) (c_X9_count hM.1 hI.1.1 hzq)
theorem pr_copied {T : oT} {σ : oM} {xC mC : Nat} {Bd : Int} (hS : oLS T σ xC mC Bd) (hmx : xC + 1227 ≤ mC) (hB : Bd ≤ 99000000) {z : Int} (hzq : o_r z) : oPR yX8_copied cX8_copied 2 1 22 yX9_copied cX9_copied 2 1 0 0 22 xC mC [oi z] T σ Bd := by
  have hS0 := hS
  obtain ⟨A, Lh, sv, rf, tl, bx, nI, f, fl, fd, hC, hM, hI⟩ := hS
  have hA := hM.2.1
  subst hA
  have hCc := hC
  obtain ⟨hX, hTx, hR, hH, hSv, hTl, hBR, hIn, h10, h8, h9⟩ := hCc
  have hbL : ∀ B ∈ Lh, nEd B ≤ 6 ∧ nLn B ≤ 20 := fun B hm => ⟨(oI_n (hI.2.1 B hm).1).2.2.1, (oI_n (hI.2.1 B hm).1).2.2.2⟩
  obtain ⟨t0, t1, t2, t3⟩ := hM.2.2.2.2.1
  have e0 : (σ (mC + 9) 0, σ (mC + 9) 1, σ (mC + 9) 2, σ (mC + 9) 3) = tl := by rw [t0, t1, t2, t3]
  have q := c_X9_copied (T := T) (σ := σ) hM.1 hzq
  rw [e0] at q
  exact pr_rd hS0 hB (c_X8_copied hX hTl hzq) q
theorem pr_look {T : oT} {σ : oM} {xC mC : Nat} {Bd : Int} (hS : oLS T σ xC mC Bd) (hmx : xC + 1227 ≤ mC) (hB : Bd ≤ 99000000) {z v w : Int} (hzq : o_r z) (hvq : o_r v) (hwq : o_r w) : oPR yX8_look cX8_look 4 3 64 yX9_look cX9_look 5 3 0 0 64 xC mC [oi z, oi v, oi w] T σ Bd := by
  have hS0 := hS
  obtain ⟨A, Lh, sv, rf, tl, bx, nI, f, fl, fd, hC, hM, hI⟩ := hS
  have hA := hM.2.1
  subst hA
  have hCc := hC
  obtain ⟨hX, hTx, hR, hH, hSv, hTl, hBR, hIn, h10, h8, h9⟩ := hCc
  have hbL : ∀ B ∈ Lh, nEd B ≤ 6 ∧ nLn B ≤ 20 := fun B hm => ⟨(oI_n (hI.2.1 B hm).1).2.2.1, (oI_n (hI.2.1 B hm).1).2.2.2⟩
  have hbx := hM.2.2.2.2.2.1
  subst hbx
  exact pr_rd hS0 hB (c_X8_look hX hBR hzq hvq hwq) (c_X9_look hM.1 (oBk_of hBR) hzq hvq hwq)
theorem pr_faultPosition {T : oT} {σ : oM} {xC mC : Nat} {Bd : Int} (hS : oLS T σ xC mC Bd) (hmx : xC + 1227 ≤ mC) (hB : Bd ≤ 99000000) : oPR yX8_faultPosition cX8_faultPosition 1 0 0 yX9_faultPosition cX9_faultPosition 1 0 0 0 0 xC mC [] T σ Bd := by
  have hS0 := hS
  obtain ⟨A, Lh, sv, rf, tl, bx, nI, f, fl, fd, hC, hM, hI⟩ := hS
  have hA := hM.2.1
  subst hA
  have hCc := hC
  obtain ⟨hX, hTx, hR, hH, hSv, hTl, hBR, hIn, h10, h8, h9⟩ := hCc
  have hbL : ∀ B ∈ Lh, nEd B ≤ 6 ∧ nLn B ≤ 20 := fun B hm => ⟨(oI_n (hI.2.1 B hm).1).2.2.1, (oI_n (hI.2.1 B hm).1).2.2.2⟩
  have q := c_X8_faultPosition (T := T) (σ := σ) hX
  have q2 := c_X9_faultPosition (T := T) (σ := σ) hM.1
  rw [h8] at q
  rw [hM.2.2.2.2.2.2.2.2.2.1] at q2
  exact pr_rd hS0 hB q q2
theorem pr_failed {T : oT} {σ : oM} {xC mC : Nat} {Bd : Int} (hS : oLS T σ xC mC Bd) (hmx : xC + 1227 ≤ mC) (hB : Bd ≤ 99000000) : oPR yX8_failed cX8_failed 1 0 0 yX9_failed cX9_failed 1 0 0 0 0 xC mC [] T σ Bd := by
  have hS0 := hS
  obtain ⟨A, Lh, sv, rf, tl, bx, nI, f, fl, fd, hC, hM, hI⟩ := hS
  have hA := hM.2.1
  subst hA
  have hCc := hC
  obtain ⟨hX, hTx, hR, hH, hSv, hTl, hBR, hIn, h10, h8, h9⟩ := hCc
  have hbL : ∀ B ∈ Lh, nEd B ≤ 6 ∧ nLn B ≤ 20 := fun B hm => ⟨(oI_n (hI.2.1 B hm).1).2.2.1, (oI_n (hI.2.1 B hm).1).2.2.2⟩
  have q := c_X8_failed (T := T) (σ := σ) hX
  have q2 := c_X9_failed (T := T) (σ := σ) hM.1
  rw [h9] at q
  rw [hM.2.2.2.2.2.2.2.2.2.2.1] at q2
  exact pr_rd hS0 hB q q2
theorem pr_refusal {T : oT} {σ : oM} {xC mC : Nat} {Bd : Int} (hS : oLS T σ xC mC Bd) (hmx : xC + 1227 ≤ mC) (hB : Bd ≤ 99000000) : oPR yX8_refusal cX8_refusal 1 0 0 yX9_refusal cX9_refusal 1 0 0 0 0 xC mC [] T σ Bd := by
  have hS0 := hS
  obtain ⟨A, Lh, sv, rf, tl, bx, nI, f, fl, fd, hC, hM, hI⟩ := hS
  have hA := hM.2.1
  subst hA
  have hCc := hC
  obtain ⟨hX, hTx, hR, hH, hSv, hTl, hBR, hIn, h10, h8, h9⟩ := hCc
  have hbL : ∀ B ∈ Lh, nEd B ≤ 6 ∧ nLn B ≤ 20 := fun B hm => ⟨(oI_n (hI.2.1 B hm).1).2.2.1, (oI_n (hI.2.1 B hm).1).2.2.2⟩
  have q := c_X8_refusal (T := T) (σ := σ) hX
  have q2 := c_X9_refusal (T := T) (σ := σ) hM.1
  rw [h10] at q
  rw [hM.2.2.2.2.2.2.2.2.1] at q2
  exact pr_rd hS0 hB q q2
theorem pr_compare {T : oT} {σ : oM} {xC mC : Nat} {Bd : Int} (hS : oLS T σ xC mC Bd) (hmx : xC + 1227 ≤ mC) (hB : Bd ≤ 99000000) {z v w : Int} (hzq : o_r z) (hvq : o_r v) (hwq : o_r w) : oPR yX8_compare cX8_compare 4 4 96 yX9_compare cX9_compare 8 4 0 0 92 xC mC [oi z, oi v, oi w] T σ Bd := by
  have hS0 := hS
  obtain ⟨A, Lh, sv, rf, tl, bx, nI, f, fl, fd, hC, hM, hI⟩ := hS
  have hA := hM.2.1
  subst hA
  have hCc := hC
  obtain ⟨hX, hTx, hR, hH, hSv, hTl, hBR, hIn, h10, h8, h9⟩ := hCc
  have hbL : ∀ B ∈ Lh, nEd B ≤ 6 ∧ nLn B ≤ 20 := fun B hm => ⟨(oI_n (hI.2.1 B hm).1).2.2.1, (oI_n (hI.2.1 B hm).1).2.2.2⟩
  refine ⟨_, c_X8_compare hX hR hI.1.1 hzq hvq hwq, fun r T2 σ2 h => ?_⟩
  obtain ⟨z2, hr2, hT2, hz2, hc⟩ := h
  refine ⟨hT2, z2, hr2, ?_⟩
  have e1 : σ2 (mC + 1) = σ (mC + 1) := hc _ (by omega)
  have hI2 : oI Bd (σ2 (mC + 1)) := by
    rw [e1]
    exact hI.1.1
  refine ⟨_, c_X9_compare hM.1 hI2 hzq hvq hwq, fun r3 T3 σ3 h3 => ?_⟩
  obtain ⟨z3, hr3, hT3, hz3, hf1, hf2⟩ := h3
  subst hT3
  rw [e1] at hz3
  refine ⟨by rw [hr3, hz3, hz2], _, _, _, _, _, _, _, _, _, _, oRC_fr2 hC hI oExt_rf (fun x x1 x2 x3 => (hf1 x (by omega) (by omega)).trans (hc x x3)), oRM_fr2 hM oExt_rf (fun x x1 x2 x3 => (hf1 x (by omega) x3).trans (hc x (by omega))) (fun k hk => (hf2 k hk).trans (congrFun (hc mC (by omega)) k)), oRI_grow hI hB⟩
theorem pr_difference {T : oT} {σ : oM} {xC mC : Nat} {Bd : Int} (hS : oLS T σ xC mC Bd) (hmx : xC + 1227 ≤ mC) (hB : Bd ≤ 99000000) {z v ix w : Int} (hzq : o_r z) (hvq : o_r v) (hixq : o_r ix) (hwq : o_r w) : oPR yX8_difference cX8_difference 5 4 96 yX9_difference cX9_difference 5 4 0 0 92 xC mC [oi z, oi v, oi ix, oi w] T σ Bd := by
  have hS0 := hS
  obtain ⟨A, Lh, sv, rf, tl, bx, nI, f, fl, fd, hC, hM, hI⟩ := hS
  have hA := hM.2.1
  subst hA
  have hCc := hC
  obtain ⟨hX, hTx, hR, hH, hSv, hTl, hBR, hIn, h10, h8, h9⟩ := hCc
  have hbL : ∀ B ∈ Lh, nEd B ≤ 6 ∧ nLn B ≤ 20 := fun B hm => ⟨(oI_n (hI.2.1 B hm).1).2.2.1, (oI_n (hI.2.1 B hm).1).2.2.2⟩
  refine ⟨_, c_X8_difference hX hR hI.1.1 hzq hvq hixq hwq, fun r T2 σ2 h => ?_⟩
  obtain ⟨z2, hr2, hT2, hz2, hc⟩ := h
  refine ⟨hT2, z2, hr2, ?_⟩
  have e1 : σ2 (mC + 1) = σ (mC + 1) := hc _ (by omega)
  have hI2 : oI Bd (σ2 (mC + 1)) := by
    rw [e1]
    exact hI.1.1
  refine ⟨_, c_X9_difference hM.1 hI2 hzq hvq hixq hwq, fun r3 T3 σ3 h3 => ?_⟩
  obtain ⟨z3, hr3, hT3, hz3, hf1, hf2⟩ := h3
  subst hT3
  rw [e1] at hz3
  refine ⟨by rw [hr3, hz3, hz2], _, _, _, _, _, _, _, _, _, _, oRC_fr2 hC hI oExt_rf (fun x x1 x2 x3 => (hf1 x (by omega) (by omega)).trans (hc x x3)), oRM_fr2 hM oExt_rf (fun x x1 x2 x3 => (hf1 x (by omega) x3).trans (hc x (by omega))) (fun k hk => (hf2 k hk).trans (congrFun (hc mC (by omega)) k)), oRI_grow hI hB⟩
theorem fEdition_L {A B : Nat → Int} {Lh : List (Nat → Int)} {z v w : Int} (h : B ∈ (fEdition A Lh z v w).2.2) : B ∈ Lh ∨ B = A := by
  unfold fEdition at h
  repeat' split at h
  all_goals first | exact Or.inl h | exact hpush_m h
theorem pr_edition {T : oT} {σ : oM} {xC mC : Nat} {Bd : Int} (hS : oLS T σ xC mC Bd) (hmx : xC + 1227 ≤ mC) (hB : Bd ≤ 99000000) {z v w : Int} (hzq : o_r z) (hvq : o_r v) (hwq : o_r w) : oPR yX8_edition cX8_edition 4 6 138 yX9_edition cX9_edition 6 3 0 0 66 xC mC [oi z, oi v, oi w] T σ Bd := by
  have hS0 := hS
  obtain ⟨A, Lh, sv, rf, tl, bx, nI, f, fl, fd, hC, hM, hI⟩ := hS
  have hA := hM.2.1
  subst hA
  have hCc := hC
  obtain ⟨hX, hTx, hR, hH, hSv, hTl, hBR, hIn, h10, h8, h9⟩ := hCc
  have hbL : ∀ B ∈ Lh, nEd B ≤ 6 ∧ nLn B ≤ 20 := fun B hm => ⟨(oI_n (hI.2.1 B hm).1).2.2.1, (oI_n (hI.2.1 B hm).1).2.2.2⟩
  refine ⟨_, c_X8_edition hX hR hI.1.1 hI.1.2 hH hbL hzq hvq hwq, fun r T2 σ2 h => ?_⟩
  obtain ⟨z2, hr2, hT2, hz2, hc⟩ := h
  refine ⟨hT2, z2, hr2, ?_⟩
  rw [h10] at hc
  have hq2 := (oRC_ck hC hI hc).2
  have hM2 := oRM_fr hM oExt_rf (σ2 := σ2) (fun x x1 x2 => hq2 x (by omega))
  have e1 : σ2 (mC + 1) = σ (mC + 1) := hM2.2.1
  have e5 : σ2 mC 5 = rf := hM2.2.2.2.2.2.2.2.2.1
  have e7 : σ2 mC 7 = 0 := hM2.2.2.2.2.2.2.2.2.2.2.2
  have hI2 : oI Bd (σ2 (mC + 1)) := by
    rw [e1]
    exact hI.1.1
  refine ⟨_, c_X9_edition hM2.1 hI2 hM2.2.2.1 e7 hzq hvq hwq, fun r3 T3 σ3 h3 => ?_⟩
  obtain ⟨z3, hr3, hT3, hz3, hm⟩ := h3
  subst hT3
  rw [e1] at hz3
  rw [e1, e5] at hm
  exact ⟨by rw [hr3, hz3, hz2], _, _, _, _, _, _, _, _, _, _, step_ck hmx hC hM hI hB hc (oMe_of hm) (fEdition_K hI.1 hB) (fun B hm => fEdition_L hm)⟩
theorem fDerive_L {A B : Nat → Int} {Lh : List (Nat → Int)} {z : Int} (h : B ∈ (fDerive A Lh z).2.2) : B ∈ Lh ∨ B = A := by
  unfold fDerive at h
  repeat' split at h
  all_goals first | exact Or.inl h | exact hpush_m h
theorem pr_derive {T : oT} {σ : oM} {xC mC : Nat} {Bd : Int} (hS : oLS T σ xC mC Bd) (hmx : xC + 1227 ≤ mC) (hB : Bd ≤ 99000000) {z : Int} (hzq : o_r z) : oPR yX8_derive cX8_derive 2 6 138 yX9_derive cX9_derive 4 3 0 0 66 xC mC [oi z] T σ Bd := by
  have hS0 := hS
  obtain ⟨A, Lh, sv, rf, tl, bx, nI, f, fl, fd, hC, hM, hI⟩ := hS
  have hA := hM.2.1
  subst hA
  have hCc := hC
  obtain ⟨hX, hTx, hR, hH, hSv, hTl, hBR, hIn, h10, h8, h9⟩ := hCc
  have hbL : ∀ B ∈ Lh, nEd B ≤ 6 ∧ nLn B ≤ 20 := fun B hm => ⟨(oI_n (hI.2.1 B hm).1).2.2.1, (oI_n (hI.2.1 B hm).1).2.2.2⟩
  refine ⟨_, c_X8_derive hX hR hI.1.1 hH hbL hzq, fun r T2 σ2 h => ?_⟩
  obtain ⟨z2, hr2, hT2, hz2, hc⟩ := h
  refine ⟨hT2, z2, hr2, ?_⟩
  rw [h10] at hc
  have hq2 := (oRC_ck hC hI hc).2
  have hM2 := oRM_fr hM oExt_rf (σ2 := σ2) (fun x x1 x2 => hq2 x (by omega))
  have e1 : σ2 (mC + 1) = σ (mC + 1) := hM2.2.1
  have e5 : σ2 mC 5 = rf := hM2.2.2.2.2.2.2.2.2.1
  have e7 : σ2 mC 7 = 0 := hM2.2.2.2.2.2.2.2.2.2.2.2
  have hI2 : oI Bd (σ2 (mC + 1)) := by
    rw [e1]
    exact hI.1.1
  refine ⟨_, c_X9_derive hM2.1 hI2 hM2.2.2.1 e7 hzq, fun r3 T3 σ3 h3 => ?_⟩
  obtain ⟨z3, hr3, hT3, hz3, hm⟩ := h3
  subst hT3
  rw [e1] at hz3
  rw [e1, e5] at hm
  exact ⟨by rw [hr3, hz3, hz2], _, _, _, _, _, _, _, _, _, _, step_ck hmx hC hM hI hB hc (oMe_of hm) (fDerive_K hI.1 hB) (fun B hm => fDerive_L hm)⟩
theorem fSeat_L {A B : Nat → Int} {Lh : List (Nat → Int)} {z v : Int} (h : B ∈ (fSeat A Lh z v).2.2) : B ∈ Lh ∨ B = A := by
  unfold fSeat at h
  repeat' split at h
  all_goals first | exact Or.inl h | exact hpush_m h
theorem pr_seat {T : oT} {σ : oM} {xC mC : Nat} {Bd : Int} (hS : oLS T σ xC mC Bd) (hmx : xC + 1227 ≤ mC) (hB : Bd ≤ 99000000) {z v : Int} (hzq : o_r z) (hvq : o_r v) : oPR yX8_seat cX8_seat 4 6 138 yX9_seat cX9_seat 4 3 0 0 66 xC mC [oi z, oi v] T σ Bd := by
  have hS0 := hS
  obtain ⟨A, Lh, sv, rf, tl, bx, nI, f, fl, fd, hC, hM, hI⟩ := hS
  have hA := hM.2.1
  subst hA
  have hCc := hC
  obtain ⟨hX, hTx, hR, hH, hSv, hTl, hBR, hIn, h10, h8, h9⟩ := hCc
  have hbL : ∀ B ∈ Lh, nEd B ≤ 6 ∧ nLn B ≤ 20 := fun B hm => ⟨(oI_n (hI.2.1 B hm).1).2.2.1, (oI_n (hI.2.1 B hm).1).2.2.2⟩
  refine ⟨_, c_X8_seat hX hR hI.1.1 hH hbL hzq hvq, fun r T2 σ2 h => ?_⟩
  obtain ⟨z2, hr2, hT2, hz2, hc⟩ := h
  refine ⟨hT2, z2, hr2, ?_⟩
  rw [h10] at hc
  have hq2 := (oRC_ck hC hI hc).2
  have hM2 := oRM_fr hM oExt_rf (σ2 := σ2) (fun x x1 x2 => hq2 x (by omega))
  have e1 : σ2 (mC + 1) = σ (mC + 1) := hM2.2.1
  have e5 : σ2 mC 5 = rf := hM2.2.2.2.2.2.2.2.2.1
  have e7 : σ2 mC 7 = 0 := hM2.2.2.2.2.2.2.2.2.2.2.2
  have hI2 : oI Bd (σ2 (mC + 1)) := by
    rw [e1]
    exact hI.1.1
  refine ⟨_, c_X9_seat hM2.1 hI2 hM2.2.2.1 e7 hzq hvq, fun r3 T3 σ3 h3 => ?_⟩
  obtain ⟨z3, hr3, hT3, hz3, hm⟩ := h3
  subst hT3
  rw [e1] at hz3
  rw [e1, e5] at hm
  exact ⟨by rw [hr3, hz3, hz2], _, _, _, _, _, _, _, _, _, _, step_ck hmx hC hM hI hB hc (oMe_of hm) (fSeat_K hI.1 hB) (fun B hm => fSeat_L hm)⟩
theorem fBuy_L {A B : Nat → Int} {Lh : List (Nat → Int)} {z v w : Int} (h : B ∈ (fBuy A Lh z v w).2.2) : B ∈ Lh ∨ B = A := by
  unfold fBuy at h
  repeat' split at h
  all_goals first | exact Or.inl h | exact hpush_m h
theorem pr_buy {T : oT} {σ : oM} {xC mC : Nat} {Bd : Int} (hS : oLS T σ xC mC Bd) (hmx : xC + 1227 ≤ mC) (hB : Bd ≤ 99000000) {z v w : Int} (hzq : o_r z) (hvq : o_r v) (hwq : o_r w) : oPR yX8_buy cX8_buy 5 6 138 yX9_buy cX9_buy 4 3 0 0 66 xC mC [oi z, oi v, oi w] T σ Bd := by
  have hS0 := hS
  obtain ⟨A, Lh, sv, rf, tl, bx, nI, f, fl, fd, hC, hM, hI⟩ := hS
  have hA := hM.2.1
  subst hA
  have hCc := hC
  obtain ⟨hX, hTx, hR, hH, hSv, hTl, hBR, hIn, h10, h8, h9⟩ := hCc
  have hbL : ∀ B ∈ Lh, nEd B ≤ 6 ∧ nLn B ≤ 20 := fun B hm => ⟨(oI_n (hI.2.1 B hm).1).2.2.1, (oI_n (hI.2.1 B hm).1).2.2.2⟩
  refine ⟨_, c_X8_buy hX hR hI.1.1 hH hbL hzq hvq hwq, fun r T2 σ2 h => ?_⟩
  obtain ⟨z2, hr2, hT2, hz2, hc⟩ := h
  refine ⟨hT2, z2, hr2, ?_⟩
  rw [h10] at hc
  have hq2 := (oRC_ck hC hI hc).2
  have hM2 := oRM_fr hM oExt_rf (σ2 := σ2) (fun x x1 x2 => hq2 x (by omega))
  have e1 : σ2 (mC + 1) = σ (mC + 1) := hM2.2.1
  have e5 : σ2 mC 5 = rf := hM2.2.2.2.2.2.2.2.2.1
  have e7 : σ2 mC 7 = 0 := hM2.2.2.2.2.2.2.2.2.2.2.2
  have hI2 : oI Bd (σ2 (mC + 1)) := by
    rw [e1]
    exact hI.1.1
  refine ⟨_, c_X9_buy hM2.1 hI2 hM2.2.2.1 e7 hzq hvq hwq, fun r3 T3 σ3 h3 => ?_⟩
  obtain ⟨z3, hr3, hT3, hz3, hm⟩ := h3
  subst hT3
  rw [e1] at hz3
  rw [e1, e5] at hm
  exact ⟨by rw [hr3, hz3, hz2], _, _, _, _, _, _, _, _, _, _, step_ck hmx hC hM hI hB hc (oMe_of hm) (fBuy_K hI.1 hB) (fun B hm => fBuy_L hm)⟩
theorem fPass_L {A B : Nat → Int} {Lh : List (Nat → Int)} {z : Int} (h : B ∈ (fPass A Lh z).2.2) : B ∈ Lh ∨ B = A := by
  unfold fPass at h
  repeat' split at h
  all_goals first | exact Or.inl h | exact hpush_m h
theorem pr_pass {T : oT} {σ : oM} {xC mC : Nat} {Bd : Int} (hS : oLS T σ xC mC Bd) (hmx : xC + 1227 ≤ mC) (hB : Bd ≤ 99000000) {z : Int} (hzq : o_r z) : oPR yX8_pass cX8_pass 2 6 138 yX9_pass cX9_pass 2 3 0 0 66 xC mC [oi z] T σ Bd := by
  have hS0 := hS
  obtain ⟨A, Lh, sv, rf, tl, bx, nI, f, fl, fd, hC, hM, hI⟩ := hS
  have hA := hM.2.1
  subst hA
  have hCc := hC
  obtain ⟨hX, hTx, hR, hH, hSv, hTl, hBR, hIn, h10, h8, h9⟩ := hCc
  have hbL : ∀ B ∈ Lh, nEd B ≤ 6 ∧ nLn B ≤ 20 := fun B hm => ⟨(oI_n (hI.2.1 B hm).1).2.2.1, (oI_n (hI.2.1 B hm).1).2.2.2⟩
  refine ⟨_, c_X8_pass hX hR hI.1.1 hH hbL hzq, fun r T2 σ2 h => ?_⟩
  obtain ⟨z2, hr2, hT2, hz2, hc⟩ := h
  refine ⟨hT2, z2, hr2, ?_⟩
  rw [h10] at hc
  have hq2 := (oRC_ck hC hI hc).2
  have hM2 := oRM_fr hM oExt_rf (σ2 := σ2) (fun x x1 x2 => hq2 x (by omega))
  have e1 : σ2 (mC + 1) = σ (mC + 1) := hM2.2.1
  have e5 : σ2 mC 5 = rf := hM2.2.2.2.2.2.2.2.2.1
  have e7 : σ2 mC 7 = 0 := hM2.2.2.2.2.2.2.2.2.2.2.2
  have hI2 : oI Bd (σ2 (mC + 1)) := by
    rw [e1]
    exact hI.1.1
  refine ⟨_, c_X9_pass hM2.1 hI2 hM2.2.2.1 e7 hzq, fun r3 T3 σ3 h3 => ?_⟩
  obtain ⟨z3, hr3, hT3, hz3, hm⟩ := h3
  subst hT3
  rw [e1] at hz3
  rw [e1, e5] at hm
  exact ⟨by rw [hr3, hz3, hz2], _, _, _, _, _, _, _, _, _, _, step_ck hmx hC hM hI hB hc (oMe_of hm) (fPass_K hI.1 hB) (fun B hm => fPass_L hm)⟩
theorem pr_tempo {T : oT} {σ : oM} {xC mC : Nat} {Bd : Int} (hS : oLS T σ xC mC Bd) (hmx : xC + 1227 ≤ mC) (hB : Bd ≤ 99000000) {z v w : Int} (hzq : o_r z) (hvq : o_r v) (hwq : o_r w) : oPR yX8_tempo cX8_tempo 4 5 117 yX9_tempo cX9_tempo 5 3 0 0 66 xC mC [oi z, oi v, oi w] T σ Bd := by
  have hS0 := hS
  obtain ⟨A, Lh, sv, rf, tl, bx, nI, f, fl, fd, hC, hM, hI⟩ := hS
  have hA := hM.2.1
  subst hA
  have hCc := hC
  obtain ⟨hX, hTx, hR, hH, hSv, hTl, hBR, hIn, h10, h8, h9⟩ := hCc
  have hbL : ∀ B ∈ Lh, nEd B ≤ 6 ∧ nLn B ≤ 20 := fun B hm => ⟨(oI_n (hI.2.1 B hm).1).2.2.1, (oI_n (hI.2.1 B hm).1).2.2.2⟩
  refine ⟨_, c_X8_tempo hX hR hI.1.1 hH hbL hzq hvq hwq, fun r T2 σ2 h => ?_⟩
  obtain ⟨z2, hr2, hT2, hz2, hc⟩ := h
  refine ⟨hT2, z2, hr2, ?_⟩
  rw [h10] at hc
  have hq2 := (oRC_ck hC hI hc).2
  have hM2 := oRM_fr hM oExt_rf (σ2 := σ2) (fun x x1 x2 => hq2 x (by omega))
  have e1 : σ2 (mC + 1) = σ (mC + 1) := hM2.2.1
  have e5 : σ2 mC 5 = rf := hM2.2.2.2.2.2.2.2.2.1
  have e7 : σ2 mC 7 = 0 := hM2.2.2.2.2.2.2.2.2.2.2.2
  have hI2 : oI Bd (σ2 (mC + 1)) := by
    rw [e1]
    exact hI.1.1
  refine ⟨_, c_X9_tempo hM2.1 hI2 hM2.2.2.1 (Or.inl e7) hzq hvq hwq, fun r3 T3 σ3 h3 => ?_⟩
  obtain ⟨z3, hr3, hT3, hz3, hm⟩ := h3
  subst hT3
  rw [e1] at hz3
  rw [e1, e5, settle_0 e7] at hm
  have hz2 : z2 = (fTempo (σ (mC + 1)) z v w).1 := hz2
  exact ⟨by rw [hr3, hz3, hz2], _, _, _, _, _, _, _, _, _, _, step_ck hmx hC hM hI hB hc (oMe_of hm) (fTempo_K hI.1 hB) (fun B hm => settle_m hm)⟩
theorem pr_bow {T : oT} {σ : oM} {xC mC : Nat} {Bd : Int} (hS : oLS T σ xC mC Bd) (hmx : xC + 1227 ≤ mC) (hB : Bd ≤ 99000000) {z v u w : Int} (hzq : o_r z) (hvq : o_r v) (huq : o_r u) (hwq : o_r w) : oPR yX8_bow cX8_bow 5 5 117 yX9_bow cX9_bow 7 3 0 0 66 xC mC [oi z, oi v, oi u, oi w] T σ Bd := by
  have hS0 := hS
  obtain ⟨A, Lh, sv, rf, tl, bx, nI, f, fl, fd, hC, hM, hI⟩ := hS
  have hA := hM.2.1
  subst hA
  have hCc := hC
  obtain ⟨hX, hTx, hR, hH, hSv, hTl, hBR, hIn, h10, h8, h9⟩ := hCc
  have hbL : ∀ B ∈ Lh, nEd B ≤ 6 ∧ nLn B ≤ 20 := fun B hm => ⟨(oI_n (hI.2.1 B hm).1).2.2.1, (oI_n (hI.2.1 B hm).1).2.2.2⟩
  refine ⟨_, c_X8_bow hX hR hI.1.1 hH hbL hzq hvq huq hwq, fun r T2 σ2 h => ?_⟩
  obtain ⟨z2, hr2, hT2, hz2, hc⟩ := h
  refine ⟨hT2, z2, hr2, ?_⟩
  rw [h10] at hc
  have hq2 := (oRC_ck hC hI hc).2
  have hM2 := oRM_fr hM oExt_rf (σ2 := σ2) (fun x x1 x2 => hq2 x (by omega))
  have e1 : σ2 (mC + 1) = σ (mC + 1) := hM2.2.1
  have e5 : σ2 mC 5 = rf := hM2.2.2.2.2.2.2.2.2.1
  have e7 : σ2 mC 7 = 0 := hM2.2.2.2.2.2.2.2.2.2.2.2
  have hI2 : oI Bd (σ2 (mC + 1)) := by
    rw [e1]
    exact hI.1.1
  refine ⟨_, c_X9_bow hM2.1 hI2 hM2.2.2.1 (Or.inl e7) hzq hvq huq hwq, fun r3 T3 σ3 h3 => ?_⟩
  obtain ⟨z3, hr3, hT3, hz3, hm⟩ := h3
  subst hT3
  rw [e1] at hz3
  rw [e1, e5, settle_0 e7] at hm
  have hz2 : z2 = (fBow (σ (mC + 1)) z v u w).1 := hz2
  exact ⟨by rw [hr3, hz3, hz2], _, _, _, _, _, _, _, _, _, _, step_ck hmx hC hM hI hB hc (oMe_of hm) (fBow_K hI.1 hB) (fun B hm => settle_m hm)⟩
theorem pr_cut {T : oT} {σ : oM} {xC mC : Nat} {Bd : Int} (hS : oLS T σ xC mC Bd) (hmx : xC + 1227 ≤ mC) (hB : Bd ≤ 99000000) {z v w : Int} (hzq : o_r z) (hvq : o_r v) (hwq : o_r w) : oPR yX8_cut cX8_cut 4 5 117 yX9_cut cX9_cut 6 3 0 0 66 xC mC [oi z, oi v, oi w] T σ Bd := by
  have hS0 := hS
  obtain ⟨A, Lh, sv, rf, tl, bx, nI, f, fl, fd, hC, hM, hI⟩ := hS
  have hA := hM.2.1
  subst hA
  have hCc := hC
  obtain ⟨hX, hTx, hR, hH, hSv, hTl, hBR, hIn, h10, h8, h9⟩ := hCc
  have hbL : ∀ B ∈ Lh, nEd B ≤ 6 ∧ nLn B ≤ 20 := fun B hm => ⟨(oI_n (hI.2.1 B hm).1).2.2.1, (oI_n (hI.2.1 B hm).1).2.2.2⟩
  refine ⟨_, c_X8_cut hX hR hI.1.1 (by omega) hH hbL hzq hvq hwq, fun r T2 σ2 h => ?_⟩
  obtain ⟨z2, hr2, hT2, hz2, hc⟩ := h
  refine ⟨hT2, z2, hr2, ?_⟩
  rw [h10] at hc hz2
  have hq2 := (oRC_ck hC hI hc).2
  have hM2 := oRM_fr hM oExt_rf (σ2 := σ2) (fun x x1 x2 => hq2 x (by omega))
  have e1 : σ2 (mC + 1) = σ (mC + 1) := hM2.2.1
  have e5 : σ2 mC 5 = rf := hM2.2.2.2.2.2.2.2.2.1
  have e7 : σ2 mC 7 = 0 := hM2.2.2.2.2.2.2.2.2.2.2.2
  have hI2 : oI Bd (σ2 (mC + 1)) := by
    rw [e1]
    exact hI.1.1
  refine ⟨_, c_X9_cut hM2.1 hI2 hM2.2.2.1 (Or.inl e7) hzq hvq hwq, fun r3 T3 σ3 h3 => ?_⟩
  obtain ⟨z3, hr3, hT3, hz3, hm⟩ := h3
  subst hT3
  rw [e1, e5] at hz3
  rw [e1, e5, settle_0 e7] at hm
  have hz2 : z2 = (fCut (σ (mC + 1)) rf z v w).1 := hz2
  exact ⟨by rw [hr3, hz3, hz2], _, _, _, _, _, _, _, _, _, _, step_ck hmx hC hM hI hB hc (oMe_of hm) (fCut_K hI.1 hB) (fun B hm => settle_m hm)⟩
theorem pr_insert {T : oT} {σ : oM} {xC mC : Nat} {Bd : Int} (hS : oLS T σ xC mC Bd) (hmx : xC + 1227 ≤ mC) (hB : Bd ≤ 99000000) {z v w u : Int} (hzq : o_r z) (hvq : o_r v) (hwq : o_r w) (huq : o_r u) : oPR yX8_insert cX8_insert 5 5 117 yX9_insert cX9_insert 8 3 0 0 66 xC mC [oi z, oi v, oi w, oi u] T σ Bd := by
  have hS0 := hS
  obtain ⟨A, Lh, sv, rf, tl, bx, nI, f, fl, fd, hC, hM, hI⟩ := hS
  have hA := hM.2.1
  subst hA
  have hCc := hC
  obtain ⟨hX, hTx, hR, hH, hSv, hTl, hBR, hIn, h10, h8, h9⟩ := hCc
  have hbL : ∀ B ∈ Lh, nEd B ≤ 6 ∧ nLn B ≤ 20 := fun B hm => ⟨(oI_n (hI.2.1 B hm).1).2.2.1, (oI_n (hI.2.1 B hm).1).2.2.2⟩
  refine ⟨_, c_X8_insert hX hR hI.1.1 (by omega) hH hbL hzq hvq hwq huq, fun r T2 σ2 h => ?_⟩
  obtain ⟨z2, hr2, hT2, hz2, hc⟩ := h
  refine ⟨hT2, z2, hr2, ?_⟩
  rw [h10] at hc hz2
  have hq2 := (oRC_ck hC hI hc).2
  have hM2 := oRM_fr hM oExt_rf (σ2 := σ2) (fun x x1 x2 => hq2 x (by omega))
  have e1 : σ2 (mC + 1) = σ (mC + 1) := hM2.2.1
  have e5 : σ2 mC 5 = rf := hM2.2.2.2.2.2.2.2.2.1
  have e7 : σ2 mC 7 = 0 := hM2.2.2.2.2.2.2.2.2.2.2.2
  have hI2 : oI Bd (σ2 (mC + 1)) := by
    rw [e1]
    exact hI.1.1
  refine ⟨_, c_X9_insert hM2.1 hI2 hM2.2.2.1 (Or.inl e7) hzq hvq hwq huq, fun r3 T3 σ3 h3 => ?_⟩
  obtain ⟨z3, hr3, hT3, hz3, hm⟩ := h3
  subst hT3
  rw [e1, e5] at hz3
  rw [e1, e5, settle_0 e7] at hm
  have hz2 : z2 = (fIns (σ (mC + 1)) rf z v w u).1 := hz2
  exact ⟨by rw [hr3, hz3, hz2], _, _, _, _, _, _, _, _, _, _, step_ck hmx hC hM hI hB hc (oMe_of hm) (fIns_K hI.1 hB) (fun B hm => settle_m hm)⟩
theorem pr_rework {T : oT} {σ : oM} {xC mC : Nat} {Bd : Int} (hS : oLS T σ xC mC Bd) (hmx : xC + 1227 ≤ mC) (hB : Bd ≤ 99000000) {z v w : Int} (hzq : o_r z) (hvq : o_r v) (hwq : o_r w) : oPR yX8_rework cX8_rework 4 5 117 yX9_rework cX9_rework 5 3 0 0 66 xC mC [oi z, oi v, oi w] T σ Bd := by
  have hS0 := hS
  obtain ⟨A, Lh, sv, rf, tl, bx, nI, f, fl, fd, hC, hM, hI⟩ := hS
  have hA := hM.2.1
  subst hA
  have hCc := hC
  obtain ⟨hX, hTx, hR, hH, hSv, hTl, hBR, hIn, h10, h8, h9⟩ := hCc
  have hbL : ∀ B ∈ Lh, nEd B ≤ 6 ∧ nLn B ≤ 20 := fun B hm => ⟨(oI_n (hI.2.1 B hm).1).2.2.1, (oI_n (hI.2.1 B hm).1).2.2.2⟩
  refine ⟨_, c_X8_rework hX hR hI.1.1 (by omega) hH hbL hzq hvq hwq, fun r T2 σ2 h => ?_⟩
  obtain ⟨z2, hr2, hT2, hz2, hc⟩ := h
  refine ⟨hT2, z2, hr2, ?_⟩
  rw [h10] at hc hz2
  have hq2 := (oRC_ck hC hI hc).2
  have hM2 := oRM_fr hM oExt_rf (σ2 := σ2) (fun x x1 x2 => hq2 x (by omega))
  have e1 : σ2 (mC + 1) = σ (mC + 1) := hM2.2.1
  have e5 : σ2 mC 5 = rf := hM2.2.2.2.2.2.2.2.2.1
  have e7 : σ2 mC 7 = 0 := hM2.2.2.2.2.2.2.2.2.2.2.2
  have hI2 : oI Bd (σ2 (mC + 1)) := by
    rw [e1]
    exact hI.1.1
  refine ⟨_, c_X9_rework hM2.1 hI2 hM2.2.2.1 (Or.inl e7) hzq hvq hwq, fun r3 T3 σ3 h3 => ?_⟩
  obtain ⟨z3, hr3, hT3, hz3, hm⟩ := h3
  subst hT3
  rw [e1, e5] at hz3
  rw [e1, e5, settle_0 e7] at hm
  have hz2 : z2 = (fRew (σ (mC + 1)) rf z v w).1 := hz2
  exact ⟨by rw [hr3, hz3, hz2], _, _, _, _, _, _, _, _, _, _, step_ck hmx hC hM hI hB hc (oMe_of hm) (fRew_K hI.1 hB) (fun B hm => settle_m hm)⟩
theorem pr_bring {T : oT} {σ : oM} {xC mC : Nat} {Bd : Int} (hS : oLS T σ xC mC Bd) (hmx : xC + 1227 ≤ mC) (hB : Bd ≤ 99000000) {z v w : Int} (hzq : o_r z) (hvq : o_r v) (hwq : o_r w) : oPR yX8_bring cX8_bring 4 5 117 yX9_bring cX9_bring 7 3 0 0 66 xC mC [oi z, oi v, oi w] T σ Bd := by
  have hS0 := hS
  obtain ⟨A, Lh, sv, rf, tl, bx, nI, f, fl, fd, hC, hM, hI⟩ := hS
  have hA := hM.2.1
  subst hA
  have hCc := hC
  obtain ⟨hX, hTx, hR, hH, hSv, hTl, hBR, hIn, h10, h8, h9⟩ := hCc
  have hbL : ∀ B ∈ Lh, nEd B ≤ 6 ∧ nLn B ≤ 20 := fun B hm => ⟨(oI_n (hI.2.1 B hm).1).2.2.1, (oI_n (hI.2.1 B hm).1).2.2.2⟩
  refine ⟨_, c_X8_bring hX hR hI.1.1 (by omega) hH hbL hzq hvq hwq, fun r T2 σ2 h => ?_⟩
  obtain ⟨z2, hr2, hT2, hz2, hc⟩ := h
  refine ⟨hT2, z2, hr2, ?_⟩
  rw [h10] at hc hz2
  have hq2 := (oRC_ck hC hI hc).2
  have hM2 := oRM_fr hM oExt_rf (σ2 := σ2) (fun x x1 x2 => hq2 x (by omega))
  have e1 : σ2 (mC + 1) = σ (mC + 1) := hM2.2.1
  have e5 : σ2 mC 5 = rf := hM2.2.2.2.2.2.2.2.2.1
  have e7 : σ2 mC 7 = 0 := hM2.2.2.2.2.2.2.2.2.2.2.2
  have hI2 : oI Bd (σ2 (mC + 1)) := by
    rw [e1]
    exact hI.1.1
  refine ⟨_, c_X9_bring hM2.1 hI2 hM2.2.2.1 (Or.inl e7) hzq hvq hwq, fun r3 T3 σ3 h3 => ?_⟩
  obtain ⟨z3, hr3, hT3, hz3, hm⟩ := h3
  subst hT3
  rw [e1, e5] at hz3
  rw [e1, e5, settle_0 e7] at hm
  have hz2 : z2 = (fBring (σ (mC + 1)) rf z v w).1 := hz2
  exact ⟨by rw [hr3, hz3, hz2], _, _, _, _, _, _, _, _, _, _, step_ck hmx hC hM hI hB hc (oMe_of hm) (fBring_K hI.1 hB) (fun B hm => settle_m hm)⟩
theorem pr_lend {T : oT} {σ : oM} {xC mC : Nat} {Bd : Int} (hS : oLS T σ xC mC Bd) (hmx : xC + 1227 ≤ mC) (hB : Bd ≤ 99000000) {z v w u d : Int} (hzq : o_r z) (hvq : o_r v) (hwq : o_r w) (huq : o_r u) (hdq : o_r d) : oPR yX8_lend cX8_lend 6 5 117 yX9_lend cX9_lend 6 3 1 8 66 xC mC [oi z, oi v, oi w, oi u, oi d] T σ Bd := by
  have hS0 := hS
  obtain ⟨A, Lh, sv, rf, tl, bx, nI, f, fl, fd, hC, hM, hI⟩ := hS
  have hA := hM.2.1
  subst hA
  have hCc := hC
  obtain ⟨hX, hTx, hR, hH, hSv, hTl, hBR, hIn, h10, h8, h9⟩ := hCc
  have hbL : ∀ B ∈ Lh, nEd B ≤ 6 ∧ nLn B ≤ 20 := fun B hm => ⟨(oI_n (hI.2.1 B hm).1).2.2.1, (oI_n (hI.2.1 B hm).1).2.2.2⟩
  refine ⟨_, c_X8_lend hX hR hI.1.1 (by omega) hH hbL hzq hvq hwq huq hdq, fun r T2 σ2 h => ?_⟩
  obtain ⟨z2, hr2, hT2, hz2, hc⟩ := h
  refine ⟨hT2, z2, hr2, ?_⟩
  rw [h10] at hc hz2
  have hq2 := (oRC_ck hC hI hc).2
  have hM2 := oRM_fr hM oExt_rf (σ2 := σ2) (fun x x1 x2 => hq2 x (by omega))
  have e1 : σ2 (mC + 1) = σ (mC + 1) := hM2.2.1
  have e5 : σ2 mC 5 = rf := hM2.2.2.2.2.2.2.2.2.1
  have e7 : σ2 mC 7 = 0 := hM2.2.2.2.2.2.2.2.2.2.2.2
  have hI2 : oI Bd (σ2 (mC + 1)) := by
    rw [e1]
    exact hI.1.1
  refine ⟨_, c_X9_lend hM2.1 hI2 hM2.2.2.1 (Or.inl e7) hzq hvq hwq huq hdq, fun r3 T3 σ3 h3 => ?_⟩
  obtain ⟨z3, hr3, hz3, hm⟩ := h3
  rw [e1, e5] at hz3
  rw [e1, e5, settle_0 e7] at hm
  have hz2 : z2 = (fLend (σ (mC + 1)) rf z v w u d).1 := hz2
  exact ⟨by rw [hr3, hz3, hz2], _, _, _, _, _, _, _, _, _, _, step_ck hmx hC hM hI hB hc hm (fLend_K hI.1 hB) (fun B hm => settle_m hm)⟩
theorem fLendAll_L {A B : Nat → Int} {Lh : List (Nat → Int)} {rf z v w : Int} (h : B ∈ (fLendAll A Lh rf z v w).2.2.1) : B ∈ Lh ∨ B = A := by
  unfold fLendAll at h
  repeat' split at h
  all_goals first | exact Or.inl h | exact hpush_m h
theorem fCopyB_L {A B : Nat → Int} {Lh : List (Nat → Int)} {tl : oTold} {z v w u : Int} (h : B ∈ (fCopyB A Lh tl z v w u).2.2.1) : B ∈ Lh ∨ B = A := by
  unfold fCopyB at h
  repeat' split at h
  all_goals first | exact Or.inl h | exact hpush_m h
theorem pr_lendAll {T : oT} {σ : oM} {xC mC : Nat} {Bd : Int} (hS : oLS T σ xC mC Bd) (hmx : xC + 1227 ≤ mC) (hB : Bd ≤ 99000000) {z v w : Int} (hzq : o_r z) (hvq : o_r v) (hwq : o_r w) : oPR yX8_lendAll cX8_lendAll 5 6 138 yX9_lendAll cX9_lendAll 8 3 6 48 66 xC mC [oi z, oi v, oi w] T σ Bd := by
  have hS0 := hS
  obtain ⟨A, Lh, sv, rf, tl, bx, nI, f, fl, fd, hC, hM, hI⟩ := hS
  have hA := hM.2.1
  subst hA
  have hCc := hC
  obtain ⟨hX, hTx, hR, hH, hSv, hTl, hBR, hIn, h10, h8, h9⟩ := hCc
  have hbL : ∀ B ∈ Lh, nEd B ≤ 6 ∧ nLn B ≤ 20 := fun B hm => ⟨(oI_n (hI.2.1 B hm).1).2.2.1, (oI_n (hI.2.1 B hm).1).2.2.2⟩
  refine ⟨_, c_X8_lendAll hX hR hI.1.1 (by omega) hH hbL hzq hvq hwq, fun r T2 σ2 h => ?_⟩
  obtain ⟨z2, hr2, hT2, hz2, hc⟩ := h
  refine ⟨hT2, z2, hr2, ?_⟩
  rw [h10] at hc hz2
  have hq2 := (oRC_ck hC hI hc).2
  have hM2 := oRM_fr hM oExt_rf (σ2 := σ2) (fun x x1 x2 => hq2 x (by omega))
  have e1 : σ2 (mC + 1) = σ (mC + 1) := hM2.2.1
  have e5 : σ2 mC 5 = rf := hM2.2.2.2.2.2.2.2.2.1
  have e7 : σ2 mC 7 = 0 := hM2.2.2.2.2.2.2.2.2.2.2.2
  have hI2 : oI Bd (σ2 (mC + 1)) := by
    rw [e1]
    exact hI.1.1
  refine ⟨_, c_X9_lendAll hM2.1 hI2 (by omega) hM2.2.2.1 e7 hzq hvq hwq, fun r3 T3 σ3 h3 => ?_⟩
  obtain ⟨z3, hr3, hz3, hm⟩ := h3
  rw [e1, e5] at hz3
  rw [e1, e5] at hm
  exact ⟨by rw [hr3, hz3, hz2], _, _, _, _, _, _, _, _, _, _, step_ck hmx hC hM hI hB hc hm (fLendAll_K hI.1 hB) (fun B hm => fLendAll_L hm)⟩
theorem pr_copyBowings {T : oT} {σ : oM} {xC mC : Nat} {Bd : Int} (hS : oLS T σ xC mC Bd) (hmx : xC + 1227 ≤ mC) (hB : Bd ≤ 99000000) {z v w u : Int} (hzq : o_r z) (hvq : o_r v) (hwq : o_r w) (huq : o_r u) : oPR yX8_copyBowings cX8_copyBowings 5 6 138 yX9_copyBowings cX9_copyBowings 10 3 0 0 66 xC mC [oi z, oi v, oi w, oi u] T σ Bd := by
  have hS0 := hS
  obtain ⟨A, Lh, sv, rf, tl, bx, nI, f, fl, fd, hC, hM, hI⟩ := hS
  have hA := hM.2.1
  subst hA
  have hCc := hC
  obtain ⟨hX, hTx, hR, hH, hSv, hTl, hBR, hIn, h10, h8, h9⟩ := hCc
  have hbL : ∀ B ∈ Lh, nEd B ≤ 6 ∧ nLn B ≤ 20 := fun B hm => ⟨(oI_n (hI.2.1 B hm).1).2.2.1, (oI_n (hI.2.1 B hm).1).2.2.2⟩
  refine ⟨_, c_X8_copyBowings hX hR hI.1.1 hH hbL hTl hzq hvq hwq huq, fun r T2 σ2 h => ?_⟩
  obtain ⟨z2, hr2, hT2, hz2, hc⟩ := h
  refine ⟨hT2, z2, hr2, ?_⟩
  have hM2 := oRM_fr hM oExt_rf (σ2 := σ2) (fun x x1 x2 => hc.2.2.2 x (by omega) (by omega))
  have e1 : σ2 (mC + 1) = σ (mC + 1) := hM2.2.1
  have e5 : σ2 mC 5 = rf := hM2.2.2.2.2.2.2.2.2.1
  have e7 : σ2 mC 7 = 0 := hM2.2.2.2.2.2.2.2.2.2.2.2
  have hI2 : oI Bd (σ2 (mC + 1)) := by
    rw [e1]
    exact hI.1.1
  refine ⟨_, c_X9_copyBowings hM2.1 hI2 hM2.2.2.1 e7 hM2.2.2.2.2.1 hzq hvq hwq huq, fun r3 T3 σ3 h3 => ?_⟩
  obtain ⟨z3, hr3, hT3, hz3, m1, m2, m3, m4, m5⟩ := h3
  subst hT3
  rw [e1] at hz3 m1 m2 m3
  exact ⟨by rw [hr3, hz3, hz2], _, _, _, _, _, _, _, _, _, _, step_cq hmx hC hM hI hB hc (fCopyB_K hI.1 hB) (fun B hm => fCopyB_L hm) m1 m2 m3 m4 m5⟩
theorem pr_box {T : oT} {σ : oM} {xC mC : Nat} {Bd : Int} (hS : oLS T σ xC mC Bd) (hmx : xC + 1227 ≤ mC) (hB : Bd ≤ 99000000) {z v w : Int} (hzq : o_r z) (hvq : o_r v) (hwq : o_r w) : oPR yX8_box cX8_box 5 2 43 yX9_box cX9_box 6 2 0 0 42 xC mC [oi z, oi v, oi w] T σ Bd := by
  have hS0 := hS
  obtain ⟨A, Lh, sv, rf, tl, bx, nI, f, fl, fd, hC, hM, hI⟩ := hS
  have hA := hM.2.1
  subst hA
  have hCc := hC
  obtain ⟨hX, hTx, hR, hH, hSv, hTl, hBR, hIn, h10, h8, h9⟩ := hCc
  have hbL : ∀ B ∈ Lh, nEd B ≤ 6 ∧ nLn B ≤ 20 := fun B hm => ⟨(oI_n (hI.2.1 B hm).1).2.2.1, (oI_n (hI.2.1 B hm).1).2.2.2⟩
  refine ⟨_, c_X8_box hX hBR hzq hvq hwq, fun r T2 σ2 h => ?_⟩
  obtain ⟨z2, hr2, hT2, hz2, c1, c2⟩ := h
  refine ⟨hT2, z2, hr2, ?_⟩
  have hM2 := oRM_fr hM oExt_rf (σ2 := σ2) (fun x x1 x2 => c2 x (by omega))
  have e1 : σ2 (mC + 1) = σ (mC + 1) := hM2.2.1
  have e5 : σ2 mC 5 = rf := hM2.2.2.2.2.2.2.2.2.1
  have e7 : σ2 mC 7 = 0 := hM2.2.2.2.2.2.2.2.2.2.2.2
  have hI2 : oI Bd (σ2 (mC + 1)) := by
    rw [e1]
    exact hI.1.1
  have ebx : bxM σ2 mC = bx := hM2.2.2.2.2.2.1
  have hK : oBk (bxM σ2 mC) := by
    rw [ebx]
    exact oBk_of hBR
  refine ⟨_, c_X9_box hM2.1 hK hzq hvq hwq, fun r3 T3 σ3 h3 => ?_⟩
  obtain ⟨z3, hr3, hT3, hz3, m1, m2⟩ := h3
  subst hT3
  rw [ebx] at hz3 m1
  obtain ⟨s1, s2⟩ := step_bx hmx hC hM hI c1 c2 m1 m2
  exact ⟨by rw [hr3, hz3, hz2], _, _, _, _, _, _, _, _, _, _, s1, s2, oRI_grow hI hB⟩
theorem pr_likeBox {T : oT} {σ : oM} {xC mC : Nat} {Bd : Int} (hS : oLS T σ xC mC Bd) (hmx : xC + 1227 ≤ mC) (hB : Bd ≤ 99000000) {z v : Int} (hzq : o_r z) (hvq : o_r v) : oPR yX8_likeBox cX8_likeBox 3 2 51 yX9_likeBox cX9_likeBox 4 2 0 0 42 xC mC [oi z, oi v] T σ Bd := by
  have hS0 := hS
  obtain ⟨A, Lh, sv, rf, tl, bx, nI, f, fl, fd, hC, hM, hI⟩ := hS
  have hA := hM.2.1
  subst hA
  have hCc := hC
  obtain ⟨hX, hTx, hR, hH, hSv, hTl, hBR, hIn, h10, h8, h9⟩ := hCc
  have hbL : ∀ B ∈ Lh, nEd B ≤ 6 ∧ nLn B ≤ 20 := fun B hm => ⟨(oI_n (hI.2.1 B hm).1).2.2.1, (oI_n (hI.2.1 B hm).1).2.2.2⟩
  refine ⟨_, c_X8_likeBox hX hBR hzq hvq, fun r T2 σ2 h => ?_⟩
  obtain ⟨z2, hr2, hT2, hz2, c1, c2⟩ := h
  refine ⟨hT2, z2, hr2, ?_⟩
  have hM2 := oRM_fr hM oExt_rf (σ2 := σ2) (fun x x1 x2 => c2 x (by omega))
  have e1 : σ2 (mC + 1) = σ (mC + 1) := hM2.2.1
  have e5 : σ2 mC 5 = rf := hM2.2.2.2.2.2.2.2.2.1
  have e7 : σ2 mC 7 = 0 := hM2.2.2.2.2.2.2.2.2.2.2.2
  have hI2 : oI Bd (σ2 (mC + 1)) := by
    rw [e1]
    exact hI.1.1
  have ebx : bxM σ2 mC = bx := hM2.2.2.2.2.2.1
  have hK : oBk (bxM σ2 mC) := by
    rw [ebx]
    exact oBk_of hBR
  refine ⟨_, c_X9_likeBox hM2.1 hK hzq hvq, fun r3 T3 σ3 h3 => ?_⟩
  obtain ⟨z3, hr3, hT3, hz3, m1, m2⟩ := h3
  subst hT3
  rw [ebx] at hz3 m1
  obtain ⟨s1, s2⟩ := step_bx hmx hC hM hI c1 c2 m1 m2
  exact ⟨by rw [hr3, hz3, hz2], _, _, _, _, _, _, _, _, _, _, s1, s2, oRI_grow hI hB⟩
theorem pr_put {T : oT} {σ : oM} {xC mC : Nat} {Bd : Int} (hS : oLS T σ xC mC Bd) (hmx : xC + 1227 ≤ mC) (hB : Bd ≤ 99000000) {z v w u : Int} (hzq : o_r z) (hvq : o_r v) (hwq : o_r w) (huq : o_r u) : oPR yX8_put cX8_put 7 3 64 yX9_put cX9_put 7 3 0 0 64 xC mC [oi z, oi v, oi w, oi u] T σ Bd := by
  have hS0 := hS
  obtain ⟨A, Lh, sv, rf, tl, bx, nI, f, fl, fd, hC, hM, hI⟩ := hS
  have hA := hM.2.1
  subst hA
  have hCc := hC
  obtain ⟨hX, hTx, hR, hH, hSv, hTl, hBR, hIn, h10, h8, h9⟩ := hCc
  have hbL : ∀ B ∈ Lh, nEd B ≤ 6 ∧ nLn B ≤ 20 := fun B hm => ⟨(oI_n (hI.2.1 B hm).1).2.2.1, (oI_n (hI.2.1 B hm).1).2.2.2⟩
  refine ⟨_, c_X8_put hX hR hI.1.1 hBR hzq hvq hwq huq, fun r T2 σ2 h => ?_⟩
  obtain ⟨z2, hr2, hT2, hz2, c1, c2⟩ := h
  refine ⟨hT2, z2, hr2, ?_⟩
  have hM2 := oRM_fr hM oExt_rf (σ2 := σ2) (fun x x1 x2 => c2 x (by omega))
  have e1 : σ2 (mC + 1) = σ (mC + 1) := hM2.2.1
  have e5 : σ2 mC 5 = rf := hM2.2.2.2.2.2.2.2.2.1
  have e7 : σ2 mC 7 = 0 := hM2.2.2.2.2.2.2.2.2.2.2.2
  have hI2 : oI Bd (σ2 (mC + 1)) := by
    rw [e1]
    exact hI.1.1
  have ebx : bxM σ2 mC = bx := hM2.2.2.2.2.2.1
  have hK : oBk (bxM σ2 mC) := by
    rw [ebx]
    exact oBk_of hBR
  refine ⟨_, c_X9_put hM2.1 hI2 hK hzq hvq hwq huq, fun r3 T3 σ3 h3 => ?_⟩
  obtain ⟨z3, hr3, hT3, hz3, m1, m2⟩ := h3
  subst hT3
  rw [e1, ebx] at hz3 m1
  obtain ⟨s1, s2⟩ := step_bx hmx hC hM hI c1 c2 m1 m2
  exact ⟨by rw [hr3, hz3, hz2], _, _, _, _, _, _, _, _, _, _, s1, s2, oRI_grow hI hB⟩
theorem pr_append {T : oT} {σ : oM} {xC mC : Nat} {Bd : Int} (hS : oLS T σ xC mC Bd) (hmx : xC + 1227 ≤ mC) (hB : Bd ≤ 99000000) {z : Int} (hzq : o_r z) : oPR yX8_append cX8_append 2 1 22 yX9_append cX9_append 2 1 0 0 22 xC mC [oi z] T σ Bd := by
  have hS0 := hS
  obtain ⟨A, Lh, sv, rf, tl, bx, nI, f, fl, fd, hC, hM, hI⟩ := hS
  have hA := hM.2.1
  subst hA
  have hCc := hC
  obtain ⟨hX, hTx, hR, hH, hSv, hTl, hBR, hIn, h10, h8, h9⟩ := hCc
  have hbL : ∀ B ∈ Lh, nEd B ≤ 6 ∧ nLn B ≤ 20 := fun B hm => ⟨(oI_n (hI.2.1 B hm).1).2.2.1, (oI_n (hI.2.1 B hm).1).2.2.2⟩
  refine ⟨_, c_X8_append hX hTx hIn hzq, fun r T2 σ2 h => ?_⟩
  obtain ⟨z2, hr2, hT2, hz2, c1, c2, c3⟩ := h
  refine ⟨hT2, z2, hr2, ?_⟩
  have hM2 := oRM_fr hM oExt_rf (σ2 := σ2) (fun x x1 x2 => c2 x (by omega) (by omega))
  have e1 : σ2 (mC + 1) = σ (mC + 1) := hM2.2.1
  have e5 : σ2 mC 5 = rf := hM2.2.2.2.2.2.2.2.2.1
  have e7 : σ2 mC 7 = 0 := hM2.2.2.2.2.2.2.2.2.2.2.2
  have hI2 : oI Bd (σ2 (mC + 1)) := by
    rw [e1]
    exact hI.1.1
  have ef : σ2 (mC + 14) = f := hM2.2.2.2.2.2.2.2.1
  refine ⟨_, c_X9_append hM2.1 hM2.2.2.2.2.2.2.1 hIn.2.1 hzq, fun r3 T3 σ3 h3 => ?_⟩
  obtain ⟨z3, hr3, hT3, hz3, m1, m2, m3, m4⟩ := h3
  subst hT3
  rw [ef] at hz3 m1 m2
  obtain ⟨s1, s2⟩ := step_in hmx hC hM hI c1 (fun x hx => c2 x (by omega) (by omega)) m1 m2 m3 m4
  exact ⟨by rw [hr3, hz3, hz2], _, _, _, _, _, _, _, _, _, _, s1, s2, oRI_grow hI hB⟩
theorem fUndo_L {A B : Nat → Int} {Lh : List (Nat → Int)} (h : B ∈ (fUndo A Lh).2.2) : B ∈ Lh ∨ B = A := by
  unfold fUndo at h
  split at h
  · exact Or.inl h
  · exact Or.inl ((List.dropLast_sublist _).subset h)
theorem fUndo_M {Bd : Int} {A : Nat → Int} {Lh : List (Nat → Int)} (h1 : oIJ Bd A) (h2 : ∀ B ∈ Lh, oIJ Bd B) : oIJ Bd (fUndo A Lh).2.1 := by
  unfold fUndo
  split
  · exact h1
  · rename_i B hB
    exact h2 B (List.mem_of_getLast? hB)
theorem fRestore_L {A B : Nat → Int} {Lh : List (Nat → Int)} {sv : Option (Nat → Int)} (h : B ∈ (fRestore A Lh sv).2.2) : B ∈ Lh ∨ B = A := by
  unfold fRestore at h
  split at h
  · exact Or.inl h
  · exact absurd h List.not_mem_nil
theorem fRestore_M {Bd : Int} {A : Nat → Int} {Lh : List (Nat → Int)} {sv : Option (Nat → Int)} (h1 : oIJ Bd A) (h2 : ∀ B, sv = some B → oIJ Bd B) : oIJ Bd (fRestore A Lh sv).2.1 := by
  unfold fRestore
  split
  · exact h1
  · rename_i B
    exact h2 B rfl
theorem pr_undo {T : oT} {σ : oM} {xC mC : Nat} {Bd : Int} (hS : oLS T σ xC mC Bd) (hmx : xC + 1227 ≤ mC) (hB : Bd ≤ 99000000) : oPR yX8_undo cX8_undo 1 6 138 yX9_undo cX9_undo 1 1 0 0 24 xC mC [] T σ Bd := by
  have hS0 := hS
  obtain ⟨A, Lh, sv, rf, tl, bx, nI, f, fl, fd, hC, hM, hI⟩ := hS
  have hA := hM.2.1
  subst hA
  have hCc := hC
  obtain ⟨hX, hTx, hR, hH, hSv, hTl, hBR, hIn, h10, h8, h9⟩ := hCc
  have hbL : ∀ B ∈ Lh, nEd B ≤ 6 ∧ nLn B ≤ 20 := fun B hm => ⟨(oI_n (hI.2.1 B hm).1).2.2.1, (oI_n (hI.2.1 B hm).1).2.2.2⟩
  refine ⟨_, c_X8_undo hX hR hI.1.1 hH (fun B hm => (hI.2.1 B hm).1), fun r T2 σ2 h => ?_⟩
  obtain ⟨z2, hr2, hT2, hz2, hc⟩ := h
  refine ⟨hT2, z2, hr2, ?_⟩
  have hM2 := oRM_fr hM oExt_rf (σ2 := σ2) (fun x x1 x2 => (oRC_ck hC hI hc).2 x (by omega))
  have e1 : σ2 (mC + 1) = σ (mC + 1) := hM2.2.1
  have e5 : σ2 mC 5 = rf := hM2.2.2.2.2.2.2.2.2.1
  have e7 : σ2 mC 7 = 0 := hM2.2.2.2.2.2.2.2.2.2.2.2
  have hI2 : oI Bd (σ2 (mC + 1)) := by
    rw [e1]
    exact hI.1.1
  refine ⟨_, c_X9_undo hM2.1 hI2 hM2.2.2.1, fun r3 T3 σ3 h3 => ?_⟩
  obtain ⟨z3, hr3, hT3, hz3, m1, m2, m3, m4⟩ := h3
  subst hT3
  rw [e1] at hz3 m1 m2
  obtain ⟨s1, s2, s3⟩ := step_ag hmx hC hM hI hc (fUndo_M hI.1 hI.2.1) (fun B hm => fUndo_L hm) m1 m2 m3 m4
  exact ⟨by rw [hr3, hz3, hz2], _, _, _, _, _, _, _, _, _, _, s1, s2, oRI_grow s3 hB⟩
theorem pr_restore {T : oT} {σ : oM} {xC mC : Nat} {Bd : Int} (hS : oLS T σ xC mC Bd) (hmx : xC + 1227 ≤ mC) (hB : Bd ≤ 99000000) : oPR yX8_restore cX8_restore 1 4 96 yX9_restore cX9_restore 1 1 0 0 24 xC mC [] T σ Bd := by
  have hS0 := hS
  obtain ⟨A, Lh, sv, rf, tl, bx, nI, f, fl, fd, hC, hM, hI⟩ := hS
  have hA := hM.2.1
  subst hA
  have hCc := hC
  obtain ⟨hX, hTx, hR, hH, hSv, hTl, hBR, hIn, h10, h8, h9⟩ := hCc
  have hbL : ∀ B ∈ Lh, nEd B ≤ 6 ∧ nLn B ≤ 20 := fun B hm => ⟨(oI_n (hI.2.1 B hm).1).2.2.1, (oI_n (hI.2.1 B hm).1).2.2.2⟩
  refine ⟨_, c_X8_restore hX hR hI.1.1 hH (fun B hm => (hI.2.1 B hm).1) hSv (fun B hs => (hI.2.2 B hs).1), fun r T2 σ2 h => ?_⟩
  obtain ⟨z2, hr2, hT2, hz2, hc⟩ := h
  refine ⟨hT2, z2, hr2, ?_⟩
  have hM2 := oRM_fr hM oExt_rf (σ2 := σ2) (fun x x1 x2 => (oRC_ck hC hI hc).2 x (by omega))
  have e1 : σ2 (mC + 1) = σ (mC + 1) := hM2.2.1
  have e5 : σ2 mC 5 = rf := hM2.2.2.2.2.2.2.2.2.1
  have e7 : σ2 mC 7 = 0 := hM2.2.2.2.2.2.2.2.2.2.2.2
  have hI2 : oI Bd (σ2 (mC + 1)) := by
    rw [e1]
    exact hI.1.1
  refine ⟨_, c_X9_restore hM2.1 hI2 hM2.2.2.1 hM2.2.2.2.1, fun r3 T3 σ3 h3 => ?_⟩
  obtain ⟨z3, hr3, hT3, hz3, m1, m2, m3, m4⟩ := h3
  subst hT3
  rw [e1] at hz3 m1 m2
  obtain ⟨s1, s2, s3⟩ := step_ag hmx hC hM hI hc (fRestore_M hI.1 hI.2.2) (fun B hm => fRestore_L hm) m1 m2 m3 m4
  exact ⟨by rw [hr3, hz3, hz2], _, _, _, _, _, _, _, _, _, _, s1, s2, oRI_grow s3 hB⟩
theorem pr_save {T : oT} {σ : oM} {xC mC : Nat} {Bd : Int} (hS : oLS T σ xC mC Bd) (hmx : xC + 1227 ≤ mC) (hB : Bd ≤ 99000000) : oPR yX8_save cX8_save 1 4 96 yX9_save cX9_save 1 1 0 0 24 xC mC [] T σ Bd := by
  have hS0 := hS
  obtain ⟨A, Lh, sv, rf, tl, bx, nI, f, fl, fd, hC, hM, hI⟩ := hS
  have hA := hM.2.1
  subst hA
  have hCc := hC
  obtain ⟨hX, hTx, hR, hH, hSv, hTl, hBR, hIn, h10, h8, h9⟩ := hCc
  have hbL : ∀ B ∈ Lh, nEd B ≤ 6 ∧ nLn B ≤ 20 := fun B hm => ⟨(oI_n (hI.2.1 B hm).1).2.2.1, (oI_n (hI.2.1 B hm).1).2.2.2⟩
  refine ⟨_, c_X8_save hX hR hI.1.1, fun r T2 σ2 h => ?_⟩
  obtain ⟨z2, hr2, hT2, hz2, c1, c2, c3, c4⟩ := h
  refine ⟨hT2, z2, hr2, ?_⟩
  have hM2 := oRM_fr hM oExt_rf (σ2 := σ2) (fun x x1 x2 => c3 x (by omega) (by omega))
  have e1 : σ2 (mC + 1) = σ (mC + 1) := hM2.2.1
  have e5 : σ2 mC 5 = rf := hM2.2.2.2.2.2.2.2.2.1
  have e7 : σ2 mC 7 = 0 := hM2.2.2.2.2.2.2.2.2.2.2.2
  have hI2 : oI Bd (σ2 (mC + 1)) := by
    rw [e1]
    exact hI.1.1
  refine ⟨_, c_X9_save hM2.1 hI2, fun r3 T3 σ3 h3 => ?_⟩
  obtain ⟨z3, hr3, hT3, hz3, m1, m2, m3, m4⟩ := h3
  subst hT3
  rw [e1] at hz3 m2
  obtain ⟨s1, s2, s3⟩ := step_sv hmx hC hM hI c1 c2 c3 c4 m1 m2 m3 m4
  exact ⟨by rw [hr3, hz3, hz2], _, _, _, _, _, _, _, _, _, _, s1, s2, oRI_grow s3 hB⟩
theorem pr_read {T : oT} {σ : oM} {xC mC : Nat} {Bd : Int} (hS : oLS T σ xC mC Bd) (hmx : xC + 1227 ≤ mC) (hB : Bd ≤ 99000000) : oPR yX8_read cX8_read 2 6 132 yX9_read cX9_read 3 6 60 480 127 xC mC [] T σ Bd := by
  have hS0 := hS
  obtain ⟨A, Lh, sv, rf, tl, bx, nI, f, fl, fd, hC, hM, hI⟩ := hS
  have hA := hM.2.1
  subst hA
  have hCc := hC
  obtain ⟨hX, hTx, hR, hH, hSv, hTl, hBR, hIn, h10, h8, h9⟩ := hCc
  have hbL : ∀ B ∈ Lh, nEd B ≤ 6 ∧ nLn B ≤ 20 := fun B hm => ⟨(oI_n (hI.2.1 B hm).1).2.2.1, (oI_n (hI.2.1 B hm).1).2.2.2⟩
  refine ⟨_, c_X8_read hX hR hI.1.1 hB hH hbL hTx hIn, fun r T2 σ2 h => ?_⟩
  obtain ⟨z2, hr2, hT2, hz2, c1, c2, c3, c4, c5, c6, c7, c8⟩ := h
  refine ⟨hT2, z2, hr2, ?_⟩
  have hM2 := oRM_fr hM oExt_rf (σ2 := σ2) (fun x x1 x2 => c8 x (by omega))
  have e1 : σ2 (mC + 1) = σ (mC + 1) := hM2.2.1
  have e5 : σ2 mC 5 = rf := hM2.2.2.2.2.2.2.2.2.1
  have e7 : σ2 mC 7 = 0 := hM2.2.2.2.2.2.2.2.2.2.2.2
  have hI2 : oI Bd (σ2 (mC + 1)) := by
    rw [e1]
    exact hI.1.1
  rw [h10] at hz2 c1 c2 c3 c5
  rw [h9] at c5
  have hi2 : oMi σ2 mC nI f := ⟨hM2.2.2.2.2.2.2.1, hIn.2.1, fun j hj => ⟨congrFun hM2.2.2.2.2.2.2.2.1 j, (hIn.2.2 j hj).2⟩⟩
  refine ⟨_, c_X9_read hM2.1 hI2 hB hM2.2.2.1 e7 hi2, fun r3 T3 σ3 h3 => ?_⟩
  obtain ⟨z3, hr3, hz3, hm⟩ := h3
  rw [e1, e5] at hz3
  obtain ⟨s1, s2, s3⟩ := step_rd hmx hC hM hI hB c1 c2 c3 c4 c5 c6 c7 c8 hm
  exact ⟨by rw [hr3, hz3, hz2], _, _, _, _, _, _, _, _, _, _, s1, s2, s3⟩
