/-! the reference: copying bowings -/
def tlF (f : Nat → Int) (tl : oTold) : Nat → Int := fun j => if j = 0 then tl.1 else if j = 1 then tl.2.1 else if j = 2 then tl.2.2.1 else if j = 3 then tl.2.2.2 else f j
/-- what the last copying told -/
def oMt (σ : oM) (mC : Nat) (tl : oTold) : Prop := σ (mC + 9) 0 = tl.1 ∧ σ (mC + 9) 1 = tl.2.1 ∧ σ (mC + 9) 2 = tl.2.2.1 ∧ σ (mC + 9) 3 = tl.2.2.2
theorem tlF_0 {f : Nat → Int} : clrF f 0 4 = tlF f (0, 0, 0, 0) := by
  funext j
  unfold clrF tlF
  by_cases h : j < 4
  · rw [if_pos (by omega)]
    by_cases h0 : j = 0
    · rw [if_pos h0]
    · rw [if_neg h0]
      by_cases h1 : j = 1
      · rw [if_pos h1]
      · rw [if_neg h1]
        by_cases h2 : j = 2
        · rw [if_pos h2]
        · rw [if_neg h2, if_pos (by omega)]
  · rw [if_neg (by omega), if_neg (by omega), if_neg (by omega), if_neg (by omega), if_neg (by omega)]
theorem rowA_id {A : Nat → Int} {tN iN : Nat} : rowA A tN iN (fun j => A (194 + 813 * tN + 8 * j + iN)) = A := by
  funext x
  unfold rowA
  by_cases h : 202 + 813 * tN + iN ≤ x ∧ x < 202 + 813 * tN + iN + 8 * nBr A tN ∧ (x - (202 + 813 * tN + iN)) % 8 = 0
  · rw [if_pos h]
    show A (194 + 813 * tN + 8 * ((x - (194 + 813 * tN + iN)) / 8) + iN) = A x
    congr 1
    omega
  · rw [if_neg h]
theorem rowA_g {A gx : Nat → Int} {tN iN th : Nat} (h1 : 1 ≤ th) (h2 : th ≤ nBr A tN) : rowA A tN iN gx (194 + 813 * tN + 8 * th + iN) = gx th := by
  unfold rowA
  rw [if_pos ⟨by omega, by omega, by omega⟩, show (194 + 813 * tN + 8 * th + iN - (194 + 813 * tN + iN)) / 8 = th by omega]
theorem rowA_up {A gx : Nat → Int} {tN iN th : Nat} {v : Int} (h1 : 1 ≤ th) (h2 : th ≤ nBr A tN) : updF (rowA A tN iN gx) (194 + 813 * tN + 8 * th + iN) v = rowA A tN iN (updF gx th v) := by
  funext x
  by_cases hx : x = 194 + 813 * tN + 8 * th + iN
  · rw [hx, updF_at, rowA_g h1 h2, updF_at]
  · rw [updF_ne hx]
    unfold rowA
    by_cases h : 202 + 813 * tN + iN ≤ x ∧ x < 202 + 813 * tN + iN + 8 * nBr A tN ∧ (x - (202 + 813 * tN + iN)) % 8 = 0
    · rw [if_pos h, if_pos h, updF_ne (by omega)]
    · rw [if_neg h, if_neg h]
def o_cpM (σ : oM) (mC : Nat) (A : Nat → Int) (tN iN : Nat) (sx : oCpS) : oM := o_row (o_row σ (mC + 1) (rowA A tN iN sx.2)) (mC + 9) (tlF (σ (mC + 9)) sx.1)
theorem cpM_1 {σ : oM} {mC tN iN : Nat} {A : Nat → Int} {sx : oCpS} : o_cpM σ mC A tN iN sx (mC + 1) = rowA A tN iN sx.2 := by
  unfold o_cpM
  rw [o_row_ne (by omega), o_row_at]
theorem cpM_9 {σ : oM} {mC tN iN : Nat} {A : Nat → Int} {sx : oCpS} : o_cpM σ mC A tN iN sx (mC + 9) = tlF (σ (mC + 9)) sx.1 := by
  unfold o_cpM
  rw [o_row_at]
theorem cpM_ne {σ : oM} {mC tN iN x : Nat} {A : Nat → Int} {sx : oCpS} (h1 : x ≠ mC + 1) (h2 : x ≠ mC + 9) : o_cpM σ mC A tN iN sx x = σ x := by
  unfold o_cpM
  rw [o_row_ne h2, o_row_ne h1]
theorem cpM_g {σ : oM} {mC tN iN th : Nat} {A gx : Nat → Int} {tl : oTold} {v : Int} (h1 : 1 ≤ th) (h2 : th ≤ nBr A tN) : o_up (o_cpM σ mC A tN iN (tl, gx)) (mC + 1) (194 + 813 * tN + 8 * th + iN) v = o_cpM σ mC A tN iN (tl, updF gx th v) := by
  funext x
  by_cases h : x = mC + 1
  · rw [h, o_upF, cpM_1, cpM_1, rowA_up h1 h2]
  · rw [o_up_ne h]
    unfold o_cpM
    by_cases h9 : x = mC + 9
    · rw [h9, o_row_at, o_row_at]
    · rw [o_row_ne h9, o_row_ne h9, o_row_ne h, o_row_ne h]
theorem cpM_t0 {σ : oM} {mC tN iN : Nat} {A gx : Nat → Int} {tA tB tC tD v : Int} : o_up (o_cpM σ mC A tN iN ((tA, tB, tC, tD), gx)) (mC + 9) 0 v = o_cpM σ mC A tN iN ((v, tB, tC, tD), gx) := by
  unfold o_cpM
  rw [o_row_up]
  refine congrArg (fun q => o_row _ _ q) (funext fun j => ?_)
  by_cases h : j = 0
  · subst h
    rw [updF_at]
    rfl
  · rw [updF_ne h]
    unfold tlF
    repeat' split
    all_goals first | rfl | omega
theorem cpM_t1 {σ : oM} {mC tN iN : Nat} {A gx : Nat → Int} {tA tB tC tD v : Int} : o_up (o_cpM σ mC A tN iN ((tA, tB, tC, tD), gx)) (mC + 9) 1 v = o_cpM σ mC A tN iN ((tA, v, tC, tD), gx) := by
  unfold o_cpM
  rw [o_row_up]
  refine congrArg (fun q => o_row _ _ q) (funext fun j => ?_)
  by_cases h : j = 1
  · subst h
    rw [updF_at]
    rfl
  · rw [updF_ne h]
    unfold tlF
    repeat' split
    all_goals first | rfl | omega
theorem cpM_t2 {σ : oM} {mC tN iN : Nat} {A gx : Nat → Int} {tA tB tC tD v : Int} : o_up (o_cpM σ mC A tN iN ((tA, tB, tC, tD), gx)) (mC + 9) 2 v = o_cpM σ mC A tN iN ((tA, tB, v, tD), gx) := by
  unfold o_cpM
  rw [o_row_up]
  refine congrArg (fun q => o_row _ _ q) (funext fun j => ?_)
  by_cases h : j = 2
  · subst h
    rw [updF_at]
    rfl
  · rw [updF_ne h]
    unfold tlF
    repeat' split
    all_goals first | rfl | omega
theorem cpM_t3 {σ : oM} {mC tN iN : Nat} {A gx : Nat → Int} {tA tB tC tD v : Int} : o_up (o_cpM σ mC A tN iN ((tA, tB, tC, tD), gx)) (mC + 9) 3 v = o_cpM σ mC A tN iN ((tA, tB, tC, v), gx) := by
  unfold o_cpM
  rw [o_row_up]
  refine congrArg (fun q => o_row _ _ q) (funext fun j => ?_)
  by_cases h : j = 3
  · subst h
    rw [updF_at]
    rfl
  · rw [updF_ne h]
    unfold tlF
    repeat' split
    all_goals first | rfl | omega
theorem cpM_I {σ : oM} {mC tN iN : Nat} {A : Nat → Int} {sx : oCpS} {Bd : Int} (hI : oI Bd A) (ht : tN < nEd A) (hi : iN < 4) (hg : ∀ j, 1 ≤ j → j ≤ nBr A tN → 0 ≤ sx.2 j ∧ sx.2 j ≤ 4) : oI Bd (o_cpM σ mC A tN iN sx (mC + 1)) := by
  rw [cpM_1]
  exact oI_row hI ht hi hg
theorem cpM_E {σ : oM} {mC tN iN : Nat} {A : Nat → Int} {sx : oCpS} : nEd (o_cpM σ mC A tN iN sx (mC + 1)) = nEd A := by
  rw [cpM_1]
  unfold nEd
  rw [rowA_ne (by omega)]
theorem cpM_B {σ : oM} {mC tN iN ex : Nat} {A : Nat → Int} {sx : oCpS} (hi : iN < 4) (hB : nBr A tN ≤ 99) : nBr (o_cpM σ mC A tN iN sx (mC + 1)) ex = nBr A ex := by
  rw [cpM_1]
  unfold nBr
  rcases Nat.lt_trichotomy ex tN with h | h | h
  · rw [rowA_out hi hB (by omega)]
  · rw [h, rowA_ne (by omega)]
  · rw [rowA_out hi hB (by omega)]
theorem cpM_car {σ : oM} {mC tN iN fN bN : Nat} {A : Nat → Int} {sx : oCpS} (hi : iN < 4) (hB : nBr A tN ≤ 99) (hn : fN ≠ tN) (hb : 1 ≤ bN ∧ bN ≤ 99) : carF (o_cpM σ mC A tN iN sx (mC + 1)) fN bN tN = carF A fN bN tN := by
  unfold carF
  rw [cpM_B hi hB, cpM_1, rowA_out hi hB (show 190 + 813 * fN + 8 * bN < 198 + 813 * tN ∨ 990 + 813 * tN ≤ 190 + 813 * fN + 8 * bN by rcases Nat.lt_or_ge fN tN with h | h <;> omega), show (fun j => rowA A tN iN sx.2 (190 + 813 * tN + 8 * j)) = (fun j => A (190 + 813 * tN + 8 * j)) from funext fun j => rowA_ne (by omega)]
theorem cpM_v {σ : oM} {mC tN iN fN bN : Nat} {A : Nat → Int} {sx : oCpS} (hi : iN < 4) (hB : nBr A tN ≤ 99) (hb : 1 ≤ bN ∧ bN ≤ 99) : o_cpM σ mC A tN iN sx (mC + 1) (191 + 813 * fN + 8 * bN) = A (191 + 813 * fN + 8 * bN) := by
  rw [cpM_1]
  rcases Nat.lt_trichotomy fN tN with h | h | h
  · exact rowA_out hi hB (by omega)
  · subst h
    exact rowA_ne (by omega)
  · exact rowA_out hi hB (by omega)
set_option maxRecDepth 20000 in
set_option maxHeartbeats 8000000 in
theorem c_X9_copyBowings {T : oT} {σ : oM} {mC : Nat} (hM : oMm T mC) {Bd : Int} (hI : oI Bd (σ (mC + 1))) {Lh : List (Nat → Int)} (hH : oMH σ mC Lh) (h7 : σ mC 7 = 0) {tl : oTold} (htl : oMt σ mC tl) {z v w u : Int} (hz : o_r z) (hv : o_r v) (hw : o_r w) (hu : o_r u) : MS yX9_copyBowings cX9_copyBowings 10 (some FieldType.int) 3 0 0 66 [og mC, oi z, oi v, oi w, oi u] T σ (oPs (fun zx σ2 => zx = (fCopyB (σ (mC + 1)) Lh tl z v w u).1 ∧ σ2 (mC + 1) = (fCopyB (σ (mC + 1)) Lh tl z v w u).2.1 ∧ oMH σ2 mC (fCopyB (σ (mC + 1)) Lh tl z v w u).2.2.1 ∧ oMt σ2 mC (fCopyB (σ (mC + 1)) Lh tl z v w u).2.2.2 ∧ (∀ x, x ≠ mC → x ≠ mC + 1 → x ≠ mC + 4 → x ≠ mC + 9 → σ2 x = σ x) ∧ ∀ k, k ≠ 4 → σ2 mC k = σ mC k) T) := by
  have hMc := hM
  obtain ⟨hM0, hMr0, hMr1, hMr2, hMr3, hMr8, hMr9, hMr10, hMr11, hMr13, hMr14, hMr15, hMr16, hMr17, hMr18, hMr19, hMr20, hMk1, hMk2, hMk3, hMk4, hMk5, hMk6, hMk7, hMk8, hMk9, hMk10, hMk11, hMk12, hMk13, hMk14, hMk15, hMk16, hMT⟩ := hMc
  have hI0 := hI.2.1
  have hI1 := hI.2.2.1
  have hI2 := hI.2.2.2.1
  have hIn := oI_n hI
  have hIB := hI.1
  refine o_met (by decide +kernel) (Nat.le_of_ble_eq_true rfl) (fun p l ee s m args below meth c G b C hr hn => ?_)
  have C : oCx p s m args meth c G b RX9 cX9_copyBowings 10 := C
  show oW p l ee ({ frames := 3, cells := 0, slots := 0, locals := 66 } : Room) s m args below meth c G b 10 0 0 (MQ below (o_Qc G b (oPs (fun zx σ2 => zx = (fCopyB (σ (mC + 1)) Lh tl z v w u).1 ∧ σ2 (mC + 1) = (fCopyB (σ (mC + 1)) Lh tl z v w u).2.1 ∧ oMH σ2 mC (fCopyB (σ (mC + 1)) Lh tl z v w u).2.2.1 ∧ oMt σ2 mC (fCopyB (σ (mC + 1)) Lh tl z v w u).2.2.2 ∧ (∀ x, x ≠ mC → x ≠ mC + 1 → x ≠ mC + 4 → x ≠ mC + 9 → σ2 x = σ x) ∧ ∀ k, k ≠ 4 → σ2 mC k = σ mC k) T)) args s 0 0 (fun q => b ≤ q)) T σ 0 [some (og mC), some (oi z), some (oi v), some (oi w), some (oi u), none, none, none, none, none] []
  refine r_al0 (q := 1) C dX9_copyBowings_0 rfl ?_
  refine r_il1 (q := 2) C dX9_copyBowings_1 rfl ?_
  refine r_callVb (q := 5) C (c_X9_isEdition hM hI (by omega)) m_X9_112 (by assumption) (by omega) dX9_copyBowings_2 rfl rfl (by decide) (by decide) (Nat.le_of_ble_eq_true rfl) (fun br2 => ?_) (fun br2 => ?_)
  · refine r_ifeq_f (q := 25) (q2 := 8) C (by decide) (by omega) dX9_copyBowings_5 (by decide) rfl ?_
    refine r_al0 (q := 9) C dX9_copyBowings_8 rfl ?_
    refine r_il2 (q := 10) C dX9_copyBowings_9 rfl ?_
    refine r_callVb (q := 13) C (c_X9_isEdition hM hI (by omega)) m_X9_112 (by assumption) (by omega) dX9_copyBowings_10 rfl rfl (by decide) (by decide) (Nat.le_of_ble_eq_true rfl) (fun br10 => ?_) (fun br10 => ?_)
    · refine r_ifeq_f (q := 25) (q2 := 16) C (by decide) (by omega) dX9_copyBowings_13 (by decide) rfl ?_
      refine r_il3 (q := 17) C dX9_copyBowings_16 rfl ?_
      refine r_iconst (q := 18) C dX9_copyBowings_17 rfl ?_
      refine r_iconst (q := 19) C dX9_copyBowings_18 rfl ?_
      refine r_callSb (q := 22) C (c_X9_in hw (by omega) (by omega)) m_X9_108 dX9_copyBowings_19 rfl rfl (by decide) (by decide) (Nat.le_of_ble_eq_true rfl) (fun br19 => ?_) (fun br19 => ?_)
      · refine r_ifne_t (q := 27) C (by decide) (by omega) dX9_copyBowings_22 (by decide) ?_
        have hs := fCopyB.eq_1 (σ (mC + 1)) Lh tl z v w u
        rw [if_pos ⟨br2, br10, br19⟩] at hs
        obtain ⟨fN, rfl, hfN, hfN6⟩ := isEd_n hI br2
        obtain ⟨tN, rfl, htN, htN6⟩ := isEd_n hI br10
        obtain ⟨iN, rfl⟩ : ∃ iN : Nat, w = (iN : Int) := ⟨w.toNat, by omega⟩
        have hi4 : iN < 4 := by omega
        have hIE := oI_b hI hfN
        have hIK := oI_b hI htN
        simp only [Int.toNat_natCast] at hs
        refine r_il1 (q := 28) C dX9_copyBowings_27 rfl ?_
        refine r_il2 (q := 29) C dX9_copyBowings_28 rfl ?_
        refine r_iceq (q := 51) (q2 := 32) C (by omega) (by omega) dX9_copyBowings_29 (by decide) rfl (fun br29 => ?_) (fun br29 => ?_)
        · rw [if_neg (fun hc => hc.1 br29)] at hs
          refine r_bipush (q := 53) C dX9_copyBowings_51 (by decide) rfl ?_
          exact r_iret C hr dX9_copyBowings_53 (by decide) (by decide) ⟨_, rfl, rfl, by rw [hs], by rw [hs], by rw [hs]; exact hH, by rw [hs]; exact htl, fun _ _ _ _ _ => rfl, fun _ _ => rfl⟩
        · refine r_al0 (q := 33) C dX9_copyBowings_32 rfl ?_
          refine r_il1 (q := 34) C dX9_copyBowings_33 rfl ?_
          refine r_il2 (q := 35) C dX9_copyBowings_34 rfl ?_
          refine r_callVb (q := 38) C (c_X9_areOfOneWork hM hI hfN htN) m_X9_155 (by assumption) (by omega) dX9_copyBowings_35 rfl rfl (by decide) (by decide) (Nat.le_of_ble_eq_true rfl) (fun br35 => ?_) (fun br35 => ?_)
          · refine r_ifeq_f (q := 51) (q2 := 41) C (by decide) (by omega) dX9_copyBowings_38 (by decide) rfl ?_
            refine r_il4 (q := 43) C dX9_copyBowings_41 rfl ?_
            refine r_iconst (q := 44) C dX9_copyBowings_43 rfl ?_
            refine r_iconst (q := 45) C dX9_copyBowings_44 rfl ?_
            refine r_callSb (q := 48) C (c_X9_in hu (by omega) (by omega)) m_X9_108 dX9_copyBowings_45 rfl rfl (by decide) (by decide) (Nat.le_of_ble_eq_true rfl) (fun br45 => ?_) (fun br45 => ?_)
            · refine r_ifne_t (q := 54) C (by decide) (by omega) dX9_copyBowings_48 (by decide) ?_
              rw [if_pos ⟨br29, br35, br45⟩] at hs
              have hft : fN ≠ tN := fun hc => br29 (by rw [hc])
              have hfo : 178 + 813 * fN < 198 + 813 * tN ∨ 990 + 813 * tN ≤ 178 + 813 * fN := by rcases Nat.lt_or_ge fN tN with h | h <;> omega
              refine r_al0 (q := 55) C dX9_copyBowings_54 rfl ?_
              refine r_callVv (q := 58) C (c_X9_keeps hM hH (Or.inl h7)) m_X9_129 (by assumption) (by omega) dX9_copyBowings_55 rfl rfl (by decide) (by decide) (Nat.le_of_ble_eq_true rfl) (fun σ2 hσ2 => ?_)
              rw [kept_0 h7] at hσ2
              have e1 := hσ2.2.1 (mC + 1) (by omega) (by omega)
              refine r_iconst (q := 59) C dX9_copyBowings_58 rfl ?_
              refine r_is5 (q := 61) C dX9_copyBowings_59 rfl (by decide) ?_
              have lp : ∀ (n : Nat) (jx : Nat) (w6 w7 w8 w9 : Option oV), (nBr (σ (mC + 1)) fN) - jx < n → (jx ≤ (nBr (σ (mC + 1)) fN)) → oW p l ee ({ frames := 3, cells := 0, slots := 0, locals := 66 } : Room) s m args below meth c G b 10 0 0 (MQ below (o_Qc G b (oPs (fun zx σ2 => zx = (fCopyB (σ (mC + 1)) Lh tl (fN : Int) (tN : Int) (iN : Int) u).1 ∧ σ2 (mC + 1) = (fCopyB (σ (mC + 1)) Lh tl (fN : Int) (tN : Int) (iN : Int) u).2.1 ∧ oMH σ2 mC (fCopyB (σ (mC + 1)) Lh tl (fN : Int) (tN : Int) (iN : Int) u).2.2.1 ∧ oMt σ2 mC (fCopyB (σ (mC + 1)) Lh tl (fN : Int) (tN : Int) (iN : Int) u).2.2.2 ∧ (∀ x, x ≠ mC → x ≠ mC + 1 → x ≠ mC + 4 → x ≠ mC + 9 → σ2 x = σ x) ∧ ∀ k, k ≠ 4 → σ2 mC k = σ mC k) T)) args s 0 0 (fun q => b ≤ q)) T (o_cpM σ2 mC (σ (mC + 1)) tN iN (cpS (fun j => (σ (mC + 1)) (194 + 813 * fN + 8 * j + iN)) (fun j => (σ (mC + 1)) (190 + 813 * fN + 8 * j)) (fun j => (σ (mC + 1)) (191 + 813 * fN + 8 * j)) (fun j => (σ (mC + 1)) (190 + 813 * tN + 8 * j)) (fun j => (σ (mC + 1)) (191 + 813 * tN + 8 * j)) (nBr (σ (mC + 1)) tN) u (fun j => (σ (mC + 1)) (194 + 813 * tN + 8 * j + iN)) jx)) 84 [some (og mC), some (oi ((fN : Nat) : Int)), some (oi ((tN : Nat) : Int)), some (oi ((iN : Nat) : Int)), some (oi u), some (oi (((jx + 1) : Nat) : Int)), w6, w7, w8, w9] [] := by
                intro n
                induction n with
                | zero =>
                  intro jx w6 w7 w8 w9 hms
                  exact absurd hms (Nat.not_lt_zero _)
                | succ n ih =>
                  intro jx w6 w7 w8 w9 hms h1
                  refine r_il5 (q := 86) C dX9_copyBowings_84 rfl ?_
                  refine r_al0 (q := 87) C dX9_copyBowings_86 rfl ?_
                  refine r_il1 (q := 88) C dX9_copyBowings_87 rfl ?_
                  refine r_callV1 (q := 91) C (c_X9_bars (eN := fN) hM (by omega)) m_X9_116 (by assumption) (by omega) dX9_copyBowings_88 rfl rfl (by decide) (by decide) (Nat.le_of_ble_eq_true rfl) ?_
                  rw [cpM_1, show rowA (σ (mC + 1)) tN iN (cpS (fun j => (σ (mC + 1)) (194 + 813 * fN + 8 * j + iN)) (fun j => (σ (mC + 1)) (190 + 813 * fN + 8 * j)) (fun j => (σ (mC + 1)) (191 + 813 * fN + 8 * j)) (fun j => (σ (mC + 1)) (190 + 813 * tN + 8 * j)) (fun j => (σ (mC + 1)) (191 + 813 * tN + 8 * j)) (nBr (σ (mC + 1)) tN) u (fun j => (σ (mC + 1)) (194 + 813 * tN + 8 * j + iN)) jx).2 (178 + 813 * fN) = σ (mC + 1) (178 + 813 * fN) from rowA_out hi4 hIK.2.2.2 hfo, ← hIE.2.1]
                  refine r_icgt (q := 275) (q2 := 94) C (by omega) (by omega) dX9_copyBowings_91 (by decide) rfl (fun br91 => ?_) (fun br91 => ?_)
                  · refine r_al0 (q := 276) C dX9_copyBowings_275 rfl ?_
                    refine r_getR (q := 279) C f_X9_52 dX9_copyBowings_276 rfl rfl (by assumption) (by assumption) (by omega) ?_
                    refine r_iconst (q := 280) C dX9_copyBowings_279 rfl ?_
                    refine r_iald (q := 281) C (0) dX9_copyBowings_280 rfl (by assumption) (by omega) (by omega) (by omega) (by decide) ?_
                    rw [cpM_9]
                    exact r_iret C hr dX9_copyBowings_281 (by decide) (by decide) ⟨_, rfl, rfl, by rw [hs, show jx = nBr (σ (mC + 1)) fN by omega]; rfl, by rw [hs, cpM_1, show jx = nBr (σ (mC + 1)) fN by omega]; rfl, by rw [hs]; exact oMH_fr hσ2.1 (congrFun (cpM_ne (by omega) (by omega)) 4) (cpM_ne (by omega) (by omega)), by rw [hs]; unfold oMt; rw [cpM_9, show jx = nBr (σ (mC + 1)) fN by omega]; exact ⟨rfl, rfl, rfl, rfl⟩, fun x x1 x2 x4 x9 => by rw [cpM_ne x2 x9]; exact hσ2.2.1 x x1 x4, fun k hk => by rw [cpM_ne (by omega) (by omega)]; exact hσ2.2.2 k hk⟩
                  · obtain ⟨⟨⟨tA, tB, tC, tD⟩, gx⟩, hsx⟩ : ∃ sx, sx = (cpS (fun j => (σ (mC + 1)) (194 + 813 * fN + 8 * j + iN)) (fun j => (σ (mC + 1)) (190 + 813 * fN + 8 * j)) (fun j => (σ (mC + 1)) (191 + 813 * fN + 8 * j)) (fun j => (σ (mC + 1)) (190 + 813 * tN + 8 * j)) (fun j => (σ (mC + 1)) (191 + 813 * tN + 8 * j)) (nBr (σ (mC + 1)) tN) u (fun j => (σ (mC + 1)) (194 + 813 * tN + 8 * j + iN)) jx) := ⟨_, rfl⟩
                    obtain ⟨th, hth⟩ : ∃ th, th = fstAt (fun j => (σ (mC + 1)) (190 + 813 * tN + 8 * j)) ((fun j => (σ (mC + 1)) (190 + 813 * fN + 8 * j)) (jx + 1)) (nBr (σ (mC + 1)) tN) 1 := ⟨_, rfl⟩
                    have hcs : (cpS (fun j => (σ (mC + 1)) (194 + 813 * fN + 8 * j + iN)) (fun j => (σ (mC + 1)) (190 + 813 * fN + 8 * j)) (fun j => (σ (mC + 1)) (191 + 813 * fN + 8 * j)) (fun j => (σ (mC + 1)) (190 + 813 * tN + 8 * j)) (fun j => (σ (mC + 1)) (191 + 813 * tN + 8 * j)) (nBr (σ (mC + 1)) tN) u (fun j => (σ (mC + 1)) (194 + 813 * tN + 8 * j + iN)) (jx + 1)) = if ((σ (mC + 1)) (194 + 813 * fN + 8 * (jx + 1) + iN)) = 0 then ((tA, tB, tC, tD), gx) else cpStep ((tA, tB, tC, tD), gx) ((σ (mC + 1)) (194 + 813 * fN + 8 * (jx + 1) + iN)) th (decide ((σ (mC + 1)) (191 + 813 * fN + 8 * (jx + 1)) ≠ (σ (mC + 1)) (191 + 813 * tN + 8 * th))) u := by
                      rw [hsx, hth]
                      rfl
                    have hcar : carF (σ (mC + 1)) fN (jx + 1) tN = if th = 0 then -7 else ((th : Nat) : Int) := by
                      rw [hth]
                      rfl
                    have hthb : th = 0 ∨ (1 ≤ th ∧ th ≤ nBr (σ (mC + 1)) tN) := by
                      rcases fstAt_spec (f := (fun j => (σ (mC + 1)) (190 + 813 * tN + 8 * j))) (v := (fun j => (σ (mC + 1)) (190 + 813 * fN + 8 * j)) (jx + 1)) (n := (nBr (σ (mC + 1)) tN)) (j := 1) (by omega) with ⟨q1, -⟩ | ⟨q1, q2, -⟩
                      · rw [← hth] at q1
                        exact Or.inl q1
                      · rw [← hth] at q1 q2
                        exact Or.inr ⟨q1, by omega⟩
                    have hfb : ∀ j, 1 ≤ j → j ≤ (nBr (σ (mC + 1)) fN) → 0 ≤ (fun j => (σ (mC + 1)) (194 + 813 * fN + 8 * j + iN)) j ∧ (fun j => (σ (mC + 1)) (194 + 813 * fN + 8 * j + iN)) j ≤ 4 := fun j j1 j2 => (hIE.1.2.2.2.2 j j1 j2).2.2.2.2 iN hi4
                    have hg : ∀ j, 1 ≤ j → j ≤ (nBr (σ (mC + 1)) tN) → 0 ≤ gx j ∧ gx j ≤ 4 := by
                      have q := cpS_in (fb := (fun j => (σ (mC + 1)) (194 + 813 * fN + 8 * j + iN))) (o1 := (fun j => (σ (mC + 1)) (190 + 813 * fN + 8 * j))) (v1 := (fun j => (σ (mC + 1)) (191 + 813 * fN + 8 * j))) (o2 := (fun j => (σ (mC + 1)) (190 + 813 * tN + 8 * j))) (v2 := (fun j => (σ (mC + 1)) (191 + 813 * tN + 8 * j))) (t0x := (fun j => (σ (mC + 1)) (194 + 813 * tN + 8 * j + iN))) (B2 := (nBr (σ (mC + 1)) tN)) (rp := u) (fun j j1 j2 => (hIK.1.2.2.2.2 j j1 j2).2.2.2.2 iN hi4) jx (fun j j1 j2 => hfb j j1 (by omega))
                      rw [← hsx] at q
                      exact q
                    have hfj : 0 ≤ ((σ (mC + 1)) (194 + 813 * fN + 8 * (jx + 1) + iN)) ∧ ((σ (mC + 1)) (194 + 813 * fN + 8 * (jx + 1) + iN)) ≤ 4 := hfb (jx + 1) (by omega) (by omega)
                    rw [← hsx]
                    refine r_al0 (q := 95) C dX9_copyBowings_94 rfl ?_
                    refine r_getR (q := 98) C f_X9_9 dX9_copyBowings_95 rfl rfl (by assumption) (by assumption) (by omega) ?_
                    refine r_il1 (q := 99) C dX9_copyBowings_98 rfl ?_
                    refine r_il5 (q := 101) C dX9_copyBowings_99 rfl ?_
                    refine r_callS1 (q := 104) C (c_X9_placeOf) m_X9_132 dX9_copyBowings_101 rfl rfl (by decide) (by decide) (Nat.le_of_ble_eq_true rfl) ?_
                    refine r_iconst (q := 105) C dX9_copyBowings_104 rfl ?_
                    refine r_iadd (q := 106) C dX9_copyBowings_105 rfl ?_
                    refine r_il3 (q := 107) C dX9_copyBowings_106 rfl ?_
                    refine r_iadd (q := 108) C dX9_copyBowings_107 rfl ?_
                    refine r_iald (q := 109) C ((194 + 813 * fN + 8 * (jx + 1) + iN)) dX9_copyBowings_108 rfl (by assumption) (by omega) (by omega) (by omega) (by decide) ?_
                    rw [cpM_1, rowA_out hi4 hIK.2.2.2 (by rcases Nat.lt_or_ge fN tN with h | h <;> omega)]
                    refine r_is6 (q := 111) C dX9_copyBowings_109 rfl (by decide) ?_
                    refine r_il6 (q := 113) C dX9_copyBowings_111 rfl ?_
                    refine r_ifne (q := 119) (q2 := 116) C (by omega) dX9_copyBowings_113 (by decide) rfl (fun br113 => ?_) (fun br113 => ?_)
                    · have hfn : ¬ ((σ (mC + 1)) (194 + 813 * fN + 8 * (jx + 1) + iN)) = 0 := by omega
                      rw [if_neg hfn] at hcs
                      refine r_al0 (q := 120) C dX9_copyBowings_119 rfl ?_
                      refine r_il1 (q := 121) C dX9_copyBowings_120 rfl ?_
                      refine r_il5 (q := 123) C dX9_copyBowings_121 rfl ?_
                      refine r_il2 (q := 124) C dX9_copyBowings_123 rfl ?_
                      refine r_callV1 (q := 127) C (c_X9_carried (eN := fN) (bN := jx + 1) (kN := tN) hM (cpM_I hI htN hi4 hg) (by rw [cpM_E]; omega) (by rw [cpM_B hi4 hIK.2.2.2]; omega) (by rw [cpM_E]; omega)) m_X9_158 (by assumption) (by omega) dX9_copyBowings_124 rfl rfl (by decide) (by decide) (Nat.le_of_ble_eq_true rfl) ?_
                      rw [cpM_car hi4 hIK.2.2.2 hft (by omega), hcar]
                      refine r_is7 (q := 129) C dX9_copyBowings_127 rfl (by decide) ?_
                      refine r_il7 (q := 131) C dX9_copyBowings_129 rfl ?_
                      refine r_ifge (q := 147) (q2 := 134) C (by split <;> omega) dX9_copyBowings_131 (by decide) rfl (fun br131 => ?_) (fun br131 => ?_)
                      · have hthn : th ≠ 0 := fun hc => by
                          rw [if_pos hc] at br131
                          omega
                        have ht1 : 1 ≤ th := by omega
                        have ht2 : th ≤ nBr (σ (mC + 1)) tN := by omega
                        have hgt := hg th ht1 ht2
                        unfold cpStep at hcs
                        rw [if_neg hthn] at hcs
                        dsimp only at hcs
                        rw [if_neg hthn]
                        refine r_il2 (q := 148) C dX9_copyBowings_147 rfl ?_
                        refine r_il7 (q := 150) C dX9_copyBowings_148 rfl ?_
                        refine r_callS1 (q := 153) C (c_X9_placeOf) m_X9_132 dX9_copyBowings_150 rfl rfl (by decide) (by decide) (Nat.le_of_ble_eq_true rfl) ?_
                        refine r_iconst (q := 154) C dX9_copyBowings_153 rfl ?_
                        refine r_iadd (q := 155) C dX9_copyBowings_154 rfl ?_
                        refine r_il3 (q := 156) C dX9_copyBowings_155 rfl ?_
                        refine r_iadd (q := 157) C dX9_copyBowings_156 rfl ?_
                        refine r_is8 (q := 159) C dX9_copyBowings_157 rfl (by decide) ?_
                        refine r_al0 (q := 160) C dX9_copyBowings_159 rfl ?_
                        refine r_getR (q := 163) C f_X9_9 dX9_copyBowings_160 rfl rfl (by assumption) (by assumption) (by omega) ?_
                        refine r_il8 (q := 165) C dX9_copyBowings_163 rfl ?_
                        refine r_iald (q := 166) C ((194 + 813 * tN + 8 * th + iN)) dX9_copyBowings_165 rfl (by assumption) (by omega) (by omega) (by omega) (by decide) ?_
                        rw [cpM_1, show rowA (σ (mC + 1)) tN iN (((((tA, tB, tC, tD), gx)) : oCpS).2) (194 + 813 * tN + 8 * th + iN) = gx th from rowA_g ht1 ht2]
                        refine r_il6 (q := 168) C dX9_copyBowings_166 rfl ?_
                        refine r_icne (q := 174) (q2 := 171) C (by omega) (by omega) dX9_copyBowings_168 (by decide) rfl (fun br168 => ?_) (fun br168 => ?_)
                        · rw [if_neg br168] at hcs
                          refine r_al0 (q := 175) C dX9_copyBowings_174 rfl ?_
                          refine r_getR (q := 178) C f_X9_9 dX9_copyBowings_175 rfl rfl (by assumption) (by assumption) (by omega) ?_
                          refine r_il8 (q := 180) C dX9_copyBowings_178 rfl ?_
                          refine r_iald (q := 181) C ((194 + 813 * tN + 8 * th + iN)) dX9_copyBowings_180 rfl (by assumption) (by omega) (by omega) (by omega) (by decide) ?_
                          rw [cpM_1, show rowA (σ (mC + 1)) tN iN (((((tA, tB, tC, tD), gx)) : oCpS).2) (194 + 813 * tN + 8 * th + iN) = gx th from rowA_g ht1 ht2]
                          refine r_ifle (q := 188) (q2 := 184) C (by omega) dX9_copyBowings_181 (by decide) rfl (fun br181 => ?_) (fun br181 => ?_)
                          · have hgz : gx th = 0 := by omega
                            have hnc : ¬ (gx th ≠ 0 ∧ u = 0) := fun hc => hc.1 hgz
                            rw [if_neg hnc, if_neg (show ¬ gx th ≠ 0 from fun hc => hc hgz)] at hcs
                            refine r_iconst (q := 189) C dX9_copyBowings_188 rfl ?_
                            refine r_is9 (q := 191) C dX9_copyBowings_189 rfl (by decide) ?_
                            refine r_al0 (q := 192) C dX9_copyBowings_191 rfl ?_
                            refine r_getR (q := 195) C f_X9_52 dX9_copyBowings_192 rfl rfl (by assumption) (by assumption) (by omega) ?_
                            refine r_iconst (q := 196) C dX9_copyBowings_195 rfl ?_
                            refine r_dup2 (q := 197) C dX9_copyBowings_196 rfl ?_
                            refine r_iald (q := 198) C (2) dX9_copyBowings_197 rfl (by assumption) (by omega) (by omega) (by omega) (by decide) ?_
                            rw [cpM_9, show tlF (σ2 (mC + 9)) (tA, tB, tC, tD) 2 = tC from rfl]
                            refine r_il9 (q := 200) C dX9_copyBowings_198 rfl ?_
                            refine r_ifeq_t (q := 207) C (by decide) (by omega) dX9_copyBowings_200 (by decide) ?_
                            refine r_iconst (q := 208) C dX9_copyBowings_207 rfl ?_
                            refine r_iadd (q := 209) C dX9_copyBowings_208 rfl ?_
                            refine r_iast (q := 210) C (2) dX9_copyBowings_209 rfl (by assumption) (by omega) (by omega) (by omega) (by decide) ?_
                            rw [cpM_t2]
                            refine r_il9 (q := 212) C dX9_copyBowings_210 rfl ?_
                            refine r_ifeq_t (q := 223) C (by decide) (by omega) dX9_copyBowings_212 (by decide) ?_
                            refine r_al0 (q := 224) C dX9_copyBowings_223 rfl ?_
                            refine r_getR (q := 227) C f_X9_9 dX9_copyBowings_224 rfl rfl (by assumption) (by assumption) (by omega) ?_
                            refine r_il8 (q := 229) C dX9_copyBowings_227 rfl ?_
                            refine r_il6 (q := 231) C dX9_copyBowings_229 rfl ?_
                            refine r_iast (q := 232) C ((194 + 813 * tN + 8 * th + iN)) dX9_copyBowings_231 rfl (by assumption) (by omega) (by omega) (by omega) (by decide) ?_
                            rw [cpM_g ht1 ht2]
                            have hg2 : ∀ j, 1 ≤ j → j ≤ (nBr (σ (mC + 1)) tN) → 0 ≤ updF gx th ((σ (mC + 1)) (194 + 813 * fN + 8 * (jx + 1) + iN)) j ∧ updF gx th ((σ (mC + 1)) (194 + 813 * fN + 8 * (jx + 1) + iN)) j ≤ 4 := fun j j1 j2 => by
                              by_cases hj : j = th
                              · rw [hj, updF_at]
                                exact hfj
                              · rw [updF_ne hj]
                                exact hg j j1 j2
                            refine r_al0 (q := 233) C dX9_copyBowings_232 rfl ?_
                            refine r_getR (q := 236) C f_X9_52 dX9_copyBowings_233 rfl rfl (by assumption) (by assumption) (by omega) ?_
                            refine r_iconst (q := 237) C dX9_copyBowings_236 rfl ?_
                            refine r_dup2 (q := 238) C dX9_copyBowings_237 rfl ?_
                            refine r_iald (q := 239) C (0) dX9_copyBowings_238 rfl (by assumption) (by omega) (by omega) (by omega) (by decide) ?_
                            rw [cpM_9, show ∀ tq : Int, tlF (σ2 (mC + 9)) (tA, tB, tq, tD) 0 = tA from fun _ => rfl]
                            refine r_iconst (q := 240) C dX9_copyBowings_239 rfl ?_
                            refine r_iadd (q := 241) C dX9_copyBowings_240 rfl ?_
                            refine r_iast (q := 242) C (0) dX9_copyBowings_241 rfl (by assumption) (by omega) (by omega) (by omega) (by decide) ?_
                            rw [cpM_t0]
                            refine r_al0 (q := 243) C dX9_copyBowings_242 rfl ?_
                            refine r_getR (q := 246) C f_X9_52 dX9_copyBowings_243 rfl rfl (by assumption) (by assumption) (by omega) ?_
                            refine r_iconst (q := 247) C dX9_copyBowings_246 rfl ?_
                            refine r_dup2 (q := 248) C dX9_copyBowings_247 rfl ?_
                            refine r_iald (q := 249) C (3) dX9_copyBowings_248 rfl (by assumption) (by omega) (by omega) (by omega) (by decide) ?_
                            rw [cpM_9, show ∀ tp tq : Int, tlF (σ2 (mC + 9)) (tp, tB, tq, tD) 3 = tD from fun _ _ => rfl]
                            refine r_al0 (q := 250) C dX9_copyBowings_249 rfl ?_
                            refine r_il1 (q := 251) C dX9_copyBowings_250 rfl ?_
                            refine r_il5 (q := 253) C dX9_copyBowings_251 rfl ?_
                            refine r_il2 (q := 254) C dX9_copyBowings_253 rfl ?_
                            refine r_il7 (q := 256) C dX9_copyBowings_254 rfl ?_
                            refine r_callVb (q := 259) C (c_X9_isSame (eN := fN) (aN := jx + 1) (kN := tN) (dN := th) hM (cpM_I hI htN hi4 hg2) (by rw [cpM_E]; omega) (by rw [cpM_B hi4 hIK.2.2.2]; omega) (by rw [cpM_E]; omega) (by rw [cpM_B hi4 hIK.2.2.2]; omega)) m_X9_166 (by assumption) (by omega) dX9_copyBowings_256 rfl rfl (by decide) (by decide) (Nat.le_of_ble_eq_true rfl) (fun br256 => ?_) (fun br256 => ?_)
                            · refine r_ifeq_f (q := 266) (q2 := 262) C (by decide) (by omega) dX9_copyBowings_259 (by decide) rfl ?_
                              refine r_iconst (q := 263) C dX9_copyBowings_262 rfl ?_
                              refine r_goto (q := 267) C dX9_copyBowings_263 (by decide) ?_
                              refine r_iadd (q := 268) C dX9_copyBowings_267 rfl ?_
                              refine r_iast (q := 269) C (3) dX9_copyBowings_268 rfl (by assumption) (by omega) (by omega) (by omega) (by decide) ?_
                              rw [cpM_t3]
                              refine r_iinc5 (q := 272) C dX9_copyBowings_269 rfl (by decide) ?_
                              refine r_goto (q := 84) C dX9_copyBowings_272 (by decide) ?_
                              have hvs : ((σ (mC + 1)) (191 + 813 * fN + 8 * (jx + 1)) = (σ (mC + 1)) (191 + 813 * tN + 8 * th)) := by
                                rw [cpM_v hi4 hIK.2.2.2 (by omega), cpM_v hi4 hIK.2.2.2 (by omega)] at br256
                                exact br256
                              rw [show ((((tA + 1, tB, (tC + 0), tD + 0), updF gx th ((σ (mC + 1)) (194 + 813 * fN + 8 * (jx + 1) + iN)))) : oCpS) = (cpS (fun j => (σ (mC + 1)) (194 + 813 * fN + 8 * j + iN)) (fun j => (σ (mC + 1)) (190 + 813 * fN + 8 * j)) (fun j => (σ (mC + 1)) (191 + 813 * fN + 8 * j)) (fun j => (σ (mC + 1)) (190 + 813 * tN + 8 * j)) (fun j => (σ (mC + 1)) (191 + 813 * tN + 8 * j)) (nBr (σ (mC + 1)) tN) u (fun j => (σ (mC + 1)) (194 + 813 * tN + 8 * j + iN)) (jx + 1)) by rw [hcs, decide_eq_false (not_not_intro hvs), if_neg (show ¬ (false = true) by decide)]]
                              exact ih (jx + 1) _ _ _ _ (by omega) (by omega)
                            · refine r_ifeq_t (q := 266) C (by decide) (by omega) dX9_copyBowings_259 (by decide) ?_
                              refine r_iconst (q := 267) C dX9_copyBowings_266 rfl ?_
                              refine r_iadd (q := 268) C dX9_copyBowings_267 rfl ?_
                              refine r_iast (q := 269) C (3) dX9_copyBowings_268 rfl (by assumption) (by omega) (by omega) (by omega) (by decide) ?_
                              rw [cpM_t3]
                              refine r_iinc5 (q := 272) C dX9_copyBowings_269 rfl (by decide) ?_
                              refine r_goto (q := 84) C dX9_copyBowings_272 (by decide) ?_
                              have hvs : ¬ ((σ (mC + 1)) (191 + 813 * fN + 8 * (jx + 1)) = (σ (mC + 1)) (191 + 813 * tN + 8 * th)) := by
                                rw [cpM_v hi4 hIK.2.2.2 (by omega), cpM_v hi4 hIK.2.2.2 (by omega)] at br256
                                exact br256
                              rw [show ((((tA + 1, tB, (tC + 0), tD + 1), updF gx th ((σ (mC + 1)) (194 + 813 * fN + 8 * (jx + 1) + iN)))) : oCpS) = (cpS (fun j => (σ (mC + 1)) (194 + 813 * fN + 8 * j + iN)) (fun j => (σ (mC + 1)) (190 + 813 * fN + 8 * j)) (fun j => (σ (mC + 1)) (191 + 813 * fN + 8 * j)) (fun j => (σ (mC + 1)) (190 + 813 * tN + 8 * j)) (fun j => (σ (mC + 1)) (191 + 813 * tN + 8 * j)) (nBr (σ (mC + 1)) tN) u (fun j => (σ (mC + 1)) (194 + 813 * tN + 8 * j + iN)) (jx + 1)) by rw [hcs, decide_eq_true hvs, if_pos rfl]]
                              exact ih (jx + 1) _ _ _ _ (by omega) (by omega)
                          · have hgz : gx th ≠ 0 := by omega
                            refine r_iconst (q := 185) C dX9_copyBowings_184 rfl ?_
                            refine r_goto (q := 189) C dX9_copyBowings_185 (by decide) ?_
                            refine r_is9 (q := 191) C dX9_copyBowings_189 rfl (by decide) ?_
                            refine r_al0 (q := 192) C dX9_copyBowings_191 rfl ?_
                            refine r_getR (q := 195) C f_X9_52 dX9_copyBowings_192 rfl rfl (by assumption) (by assumption) (by omega) ?_
                            refine r_iconst (q := 196) C dX9_copyBowings_195 rfl ?_
                            refine r_dup2 (q := 197) C dX9_copyBowings_196 rfl ?_
                            refine r_iald (q := 198) C (2) dX9_copyBowings_197 rfl (by assumption) (by omega) (by omega) (by omega) (by decide) ?_
                            rw [cpM_9, show tlF (σ2 (mC + 9)) (tA, tB, tC, tD) 2 = tC from rfl]
                            refine r_il9 (q := 200) C dX9_copyBowings_198 rfl ?_
                            refine r_ifeq_f (q := 207) (q2 := 203) C (by decide) (by omega) dX9_copyBowings_200 (by decide) rfl ?_
                            refine r_iconst (q := 204) C dX9_copyBowings_203 rfl ?_
                            refine r_goto (q := 208) C dX9_copyBowings_204 (by decide) ?_
                            refine r_iadd (q := 209) C dX9_copyBowings_208 rfl ?_
                            refine r_iast (q := 210) C (2) dX9_copyBowings_209 rfl (by assumption) (by omega) (by omega) (by omega) (by decide) ?_
                            rw [cpM_t2]
                            refine r_il9 (q := 212) C dX9_copyBowings_210 rfl ?_
                            refine r_ifeq_f (q := 223) (q2 := 215) C (by decide) (by omega) dX9_copyBowings_212 (by decide) rfl ?_
                            refine r_il4 (q := 217) C dX9_copyBowings_215 rfl ?_
                            refine r_ifne (q := 223) (q2 := 220) C (by omega) dX9_copyBowings_217 (by decide) rfl (fun br217 => ?_) (fun br217 => ?_)
                            · rw [if_neg (show ¬ (gx th ≠ 0 ∧ u = 0) by omega), if_pos hgz] at hcs
                              refine r_al0 (q := 224) C dX9_copyBowings_223 rfl ?_
                              refine r_getR (q := 227) C f_X9_9 dX9_copyBowings_224 rfl rfl (by assumption) (by assumption) (by omega) ?_
                              refine r_il8 (q := 229) C dX9_copyBowings_227 rfl ?_
                              refine r_il6 (q := 231) C dX9_copyBowings_229 rfl ?_
                              refine r_iast (q := 232) C ((194 + 813 * tN + 8 * th + iN)) dX9_copyBowings_231 rfl (by assumption) (by omega) (by omega) (by omega) (by decide) ?_
                              rw [cpM_g ht1 ht2]
                              have hg2 : ∀ j, 1 ≤ j → j ≤ (nBr (σ (mC + 1)) tN) → 0 ≤ updF gx th ((σ (mC + 1)) (194 + 813 * fN + 8 * (jx + 1) + iN)) j ∧ updF gx th ((σ (mC + 1)) (194 + 813 * fN + 8 * (jx + 1) + iN)) j ≤ 4 := fun j j1 j2 => by
                                by_cases hj : j = th
                                · rw [hj, updF_at]
                                  exact hfj
                                · rw [updF_ne hj]
                                  exact hg j j1 j2
                              refine r_al0 (q := 233) C dX9_copyBowings_232 rfl ?_
                              refine r_getR (q := 236) C f_X9_52 dX9_copyBowings_233 rfl rfl (by assumption) (by assumption) (by omega) ?_
                              refine r_iconst (q := 237) C dX9_copyBowings_236 rfl ?_
                              refine r_dup2 (q := 238) C dX9_copyBowings_237 rfl ?_
                              refine r_iald (q := 239) C (0) dX9_copyBowings_238 rfl (by assumption) (by omega) (by omega) (by omega) (by decide) ?_
                              rw [cpM_9, show ∀ tq : Int, tlF (σ2 (mC + 9)) (tA, tB, tq, tD) 0 = tA from fun _ => rfl]
                              refine r_iconst (q := 240) C dX9_copyBowings_239 rfl ?_
                              refine r_iadd (q := 241) C dX9_copyBowings_240 rfl ?_
                              refine r_iast (q := 242) C (0) dX9_copyBowings_241 rfl (by assumption) (by omega) (by omega) (by omega) (by decide) ?_
                              rw [cpM_t0]
                              refine r_al0 (q := 243) C dX9_copyBowings_242 rfl ?_
                              refine r_getR (q := 246) C f_X9_52 dX9_copyBowings_243 rfl rfl (by assumption) (by assumption) (by omega) ?_
                              refine r_iconst (q := 247) C dX9_copyBowings_246 rfl ?_
                              refine r_dup2 (q := 248) C dX9_copyBowings_247 rfl ?_
                              refine r_iald (q := 249) C (3) dX9_copyBowings_248 rfl (by assumption) (by omega) (by omega) (by omega) (by decide) ?_
                              rw [cpM_9, show ∀ tp tq : Int, tlF (σ2 (mC + 9)) (tp, tB, tq, tD) 3 = tD from fun _ _ => rfl]
                              refine r_al0 (q := 250) C dX9_copyBowings_249 rfl ?_
                              refine r_il1 (q := 251) C dX9_copyBowings_250 rfl ?_
                              refine r_il5 (q := 253) C dX9_copyBowings_251 rfl ?_
                              refine r_il2 (q := 254) C dX9_copyBowings_253 rfl ?_
                              refine r_il7 (q := 256) C dX9_copyBowings_254 rfl ?_
                              refine r_callVb (q := 259) C (c_X9_isSame (eN := fN) (aN := jx + 1) (kN := tN) (dN := th) hM (cpM_I hI htN hi4 hg2) (by rw [cpM_E]; omega) (by rw [cpM_B hi4 hIK.2.2.2]; omega) (by rw [cpM_E]; omega) (by rw [cpM_B hi4 hIK.2.2.2]; omega)) m_X9_166 (by assumption) (by omega) dX9_copyBowings_256 rfl rfl (by decide) (by decide) (Nat.le_of_ble_eq_true rfl) (fun br256 => ?_) (fun br256 => ?_)
                              · refine r_ifeq_f (q := 266) (q2 := 262) C (by decide) (by omega) dX9_copyBowings_259 (by decide) rfl ?_
                                refine r_iconst (q := 263) C dX9_copyBowings_262 rfl ?_
                                refine r_goto (q := 267) C dX9_copyBowings_263 (by decide) ?_
                                refine r_iadd (q := 268) C dX9_copyBowings_267 rfl ?_
                                refine r_iast (q := 269) C (3) dX9_copyBowings_268 rfl (by assumption) (by omega) (by omega) (by omega) (by decide) ?_
                                rw [cpM_t3]
                                refine r_iinc5 (q := 272) C dX9_copyBowings_269 rfl (by decide) ?_
                                refine r_goto (q := 84) C dX9_copyBowings_272 (by decide) ?_
                                have hvs : ((σ (mC + 1)) (191 + 813 * fN + 8 * (jx + 1)) = (σ (mC + 1)) (191 + 813 * tN + 8 * th)) := by
                                  rw [cpM_v hi4 hIK.2.2.2 (by omega), cpM_v hi4 hIK.2.2.2 (by omega)] at br256
                                  exact br256
                                rw [show ((((tA + 1, tB, (tC + 1), tD + 0), updF gx th ((σ (mC + 1)) (194 + 813 * fN + 8 * (jx + 1) + iN)))) : oCpS) = (cpS (fun j => (σ (mC + 1)) (194 + 813 * fN + 8 * j + iN)) (fun j => (σ (mC + 1)) (190 + 813 * fN + 8 * j)) (fun j => (σ (mC + 1)) (191 + 813 * fN + 8 * j)) (fun j => (σ (mC + 1)) (190 + 813 * tN + 8 * j)) (fun j => (σ (mC + 1)) (191 + 813 * tN + 8 * j)) (nBr (σ (mC + 1)) tN) u (fun j => (σ (mC + 1)) (194 + 813 * tN + 8 * j + iN)) (jx + 1)) by rw [hcs, decide_eq_false (not_not_intro hvs), if_neg (show ¬ (false = true) by decide)]]
                                exact ih (jx + 1) _ _ _ _ (by omega) (by omega)
                              · refine r_ifeq_t (q := 266) C (by decide) (by omega) dX9_copyBowings_259 (by decide) ?_
                                refine r_iconst (q := 267) C dX9_copyBowings_266 rfl ?_
                                refine r_iadd (q := 268) C dX9_copyBowings_267 rfl ?_
                                refine r_iast (q := 269) C (3) dX9_copyBowings_268 rfl (by assumption) (by omega) (by omega) (by omega) (by decide) ?_
                                rw [cpM_t3]
                                refine r_iinc5 (q := 272) C dX9_copyBowings_269 rfl (by decide) ?_
                                refine r_goto (q := 84) C dX9_copyBowings_272 (by decide) ?_
                                have hvs : ¬ ((σ (mC + 1)) (191 + 813 * fN + 8 * (jx + 1)) = (σ (mC + 1)) (191 + 813 * tN + 8 * th)) := by
                                  rw [cpM_v hi4 hIK.2.2.2 (by omega), cpM_v hi4 hIK.2.2.2 (by omega)] at br256
                                  exact br256
                                rw [show ((((tA + 1, tB, (tC + 1), tD + 1), updF gx th ((σ (mC + 1)) (194 + 813 * fN + 8 * (jx + 1) + iN)))) : oCpS) = (cpS (fun j => (σ (mC + 1)) (194 + 813 * fN + 8 * j + iN)) (fun j => (σ (mC + 1)) (190 + 813 * fN + 8 * j)) (fun j => (σ (mC + 1)) (191 + 813 * fN + 8 * j)) (fun j => (σ (mC + 1)) (190 + 813 * tN + 8 * j)) (fun j => (σ (mC + 1)) (191 + 813 * tN + 8 * j)) (nBr (σ (mC + 1)) tN) u (fun j => (σ (mC + 1)) (194 + 813 * tN + 8 * j + iN)) (jx + 1)) by rw [hcs, decide_eq_true hvs, if_pos rfl]]
                                exact ih (jx + 1) _ _ _ _ (by omega) (by omega)
                            · refine r_goto (q := 269) C dX9_copyBowings_220 (by decide) ?_
                              refine r_iinc5 (q := 272) C dX9_copyBowings_269 rfl (by decide) ?_
                              refine r_goto (q := 84) C dX9_copyBowings_272 (by decide) ?_
                              rw [show ((((tA, tB, tC + 1, tD), gx)) : oCpS) = (cpS (fun j => (σ (mC + 1)) (194 + 813 * fN + 8 * j + iN)) (fun j => (σ (mC + 1)) (190 + 813 * fN + 8 * j)) (fun j => (σ (mC + 1)) (191 + 813 * fN + 8 * j)) (fun j => (σ (mC + 1)) (190 + 813 * tN + 8 * j)) (fun j => (σ (mC + 1)) (191 + 813 * tN + 8 * j)) (nBr (σ (mC + 1)) tN) u (fun j => (σ (mC + 1)) (194 + 813 * tN + 8 * j + iN)) (jx + 1)) by rw [hcs, if_pos ⟨hgz, by omega⟩]]
                              exact ih (jx + 1) _ _ _ _ (by omega) (by omega)
                        · refine r_goto (q := 269) C dX9_copyBowings_171 (by decide) ?_
                          refine r_iinc5 (q := 272) C dX9_copyBowings_269 rfl (by decide) ?_
                          refine r_goto (q := 84) C dX9_copyBowings_272 (by decide) ?_
                          rw [show ((((tA, tB, tC, tD), gx)) : oCpS) = (cpS (fun j => (σ (mC + 1)) (194 + 813 * fN + 8 * j + iN)) (fun j => (σ (mC + 1)) (190 + 813 * fN + 8 * j)) (fun j => (σ (mC + 1)) (191 + 813 * fN + 8 * j)) (fun j => (σ (mC + 1)) (190 + 813 * tN + 8 * j)) (fun j => (σ (mC + 1)) (191 + 813 * tN + 8 * j)) (nBr (σ (mC + 1)) tN) u (fun j => (σ (mC + 1)) (194 + 813 * tN + 8 * j + iN)) (jx + 1)) by rw [hcs, if_pos br168]]
                          exact ih (jx + 1) _ _ _ _ (by omega) (by omega)
                      · have hth0 : th = 0 := by
                          by_cases hc : th = 0
                          · exact hc
                          · rw [if_neg hc] at br131
                            omega
                        refine r_al0 (q := 135) C dX9_copyBowings_134 rfl ?_
                        refine r_getR (q := 138) C f_X9_52 dX9_copyBowings_135 rfl rfl (by assumption) (by assumption) (by omega) ?_
                        refine r_iconst (q := 139) C dX9_copyBowings_138 rfl ?_
                        refine r_dup2 (q := 140) C dX9_copyBowings_139 rfl ?_
                        refine r_iald (q := 141) C (1) dX9_copyBowings_140 rfl (by assumption) (by omega) (by omega) (by omega) (by decide) ?_
                        rw [cpM_9, show tlF (σ2 (mC + 9)) (tA, tB, tC, tD) 1 = tB from rfl]
                        refine r_iconst (q := 142) C dX9_copyBowings_141 rfl ?_
                        refine r_iadd (q := 143) C dX9_copyBowings_142 rfl ?_
                        refine r_iast (q := 144) C (1) dX9_copyBowings_143 rfl (by assumption) (by omega) (by omega) (by omega) (by decide) ?_
                        rw [cpM_t1]
                        refine r_goto (q := 269) C dX9_copyBowings_144 (by decide) ?_
                        refine r_iinc5 (q := 272) C dX9_copyBowings_269 rfl (by decide) ?_
                        refine r_goto (q := 84) C dX9_copyBowings_272 (by decide) ?_
                        rw [show ((((tA, tB + 1, tC, tD), gx)) : oCpS) = (cpS (fun j => (σ (mC + 1)) (194 + 813 * fN + 8 * j + iN)) (fun j => (σ (mC + 1)) (190 + 813 * fN + 8 * j)) (fun j => (σ (mC + 1)) (191 + 813 * fN + 8 * j)) (fun j => (σ (mC + 1)) (190 + 813 * tN + 8 * j)) (fun j => (σ (mC + 1)) (191 + 813 * tN + 8 * j)) (nBr (σ (mC + 1)) tN) u (fun j => (σ (mC + 1)) (194 + 813 * tN + 8 * j + iN)) (jx + 1)) by rw [hcs, cpStep, if_pos hth0]]
                        exact ih (jx + 1) _ _ _ _ (by omega) (by omega)
                    · refine r_goto (q := 269) C dX9_copyBowings_116 (by decide) ?_
                      
                      refine r_iinc5 (q := 272) C dX9_copyBowings_269 rfl (by decide) ?_
                      refine r_goto (q := 84) C dX9_copyBowings_272 (by decide) ?_
                      rw [show ((((tA, tB, tC, tD), gx)) : oCpS) = (cpS (fun j => (σ (mC + 1)) (194 + 813 * fN + 8 * j + iN)) (fun j => (σ (mC + 1)) (190 + 813 * fN + 8 * j)) (fun j => (σ (mC + 1)) (191 + 813 * fN + 8 * j)) (fun j => (σ (mC + 1)) (190 + 813 * tN + 8 * j)) (fun j => (σ (mC + 1)) (191 + 813 * tN + 8 * j)) (nBr (σ (mC + 1)) tN) u (fun j => (σ (mC + 1)) (194 + 813 * tN + 8 * j + iN)) (jx + 1)) by rw [hcs, if_pos (by omega)]]
                      exact ih (jx + 1) _ _ _ _ (by omega) (by omega)
              have lp0 : ∀ (n0 : Nat) (kx : Nat), 4 - kx < n0 → (kx ≤ 4) → oW p l ee ({ frames := 3, cells := 0, slots := 0, locals := 66 } : Room) s m args below meth c G b 10 0 0 (MQ below (o_Qc G b (oPs (fun zx σ2 => zx = (fCopyB (σ (mC + 1)) Lh tl (fN : Int) (tN : Int) (iN : Int) u).1 ∧ σ2 (mC + 1) = (fCopyB (σ (mC + 1)) Lh tl (fN : Int) (tN : Int) (iN : Int) u).2.1 ∧ oMH σ2 mC (fCopyB (σ (mC + 1)) Lh tl (fN : Int) (tN : Int) (iN : Int) u).2.2.1 ∧ oMt σ2 mC (fCopyB (σ (mC + 1)) Lh tl (fN : Int) (tN : Int) (iN : Int) u).2.2.2 ∧ (∀ x, x ≠ mC → x ≠ mC + 1 → x ≠ mC + 4 → x ≠ mC + 9 → σ2 x = σ x) ∧ ∀ k, k ≠ 4 → σ2 mC k = σ mC k) T)) args s 0 0 (fun q => b ≤ q)) T (o_row σ2 (mC + 9) (clrF (σ2 (mC + 9)) 0 kx)) 61 [some (og mC), some (oi ((fN : Nat) : Int)), some (oi ((tN : Nat) : Int)), some (oi ((iN : Nat) : Int)), some (oi u), some (oi ((kx : Nat) : Int)), none, none, none, none] [] := by
                intro n0
                induction n0 with
                | zero =>
                  intro kx hms
                  exact absurd hms (Nat.not_lt_zero _)
                | succ n0 ih0 =>
                  intro kx hms k1
                  refine r_il5 (q := 63) C dX9_copyBowings_61 rfl ?_
                  refine r_iconst (q := 64) C dX9_copyBowings_63 rfl ?_
                  refine r_icge (q := 81) (q2 := 67) C (by omega) (by omega) dX9_copyBowings_64 (by decide) rfl (fun br64 => ?_) (fun br64 => ?_)
                  · refine r_iconst (q := 82) C dX9_copyBowings_81 rfl ?_
                    refine r_is5 (q := 84) C dX9_copyBowings_82 rfl (by decide) ?_
                    rw [show kx = 4 by omega, tlF_0]
                    have h0 := lp _ 0 none none none none (Nat.lt_succ_self _) (Nat.zero_le _)
                    unfold o_cpM at h0
                    rw [show (cpS (fun j => (σ (mC + 1)) (194 + 813 * fN + 8 * j + iN)) (fun j => (σ (mC + 1)) (190 + 813 * fN + 8 * j)) (fun j => (σ (mC + 1)) (191 + 813 * fN + 8 * j)) (fun j => (σ (mC + 1)) (190 + 813 * tN + 8 * j)) (fun j => (σ (mC + 1)) (191 + 813 * tN + 8 * j)) (nBr (σ (mC + 1)) tN) u (fun j => (σ (mC + 1)) (194 + 813 * tN + 8 * j + iN)) 0) = ((0, 0, 0, 0), (fun j => (σ (mC + 1)) (194 + 813 * tN + 8 * j + iN))) from rfl] at h0
                    dsimp only at h0
                    rw [rowA_id, show o_row σ2 (mC + 1) (σ (mC + 1)) = σ2 by rw [← e1]; exact o_row_self] at h0
                    exact h0
                  · refine r_al0 (q := 68) C dX9_copyBowings_67 rfl ?_
                    refine r_getR (q := 71) C f_X9_52 dX9_copyBowings_68 rfl rfl (by assumption) (by assumption) (by omega) ?_
                    refine r_il5 (q := 73) C dX9_copyBowings_71 rfl ?_
                    refine r_iconst (q := 74) C dX9_copyBowings_73 rfl ?_
                    refine r_iast (q := 75) C (kx) dX9_copyBowings_74 rfl (by assumption) (by omega) (by omega) (by omega) (by decide) ?_
                    rw [o_row_up, show updF (clrF (σ2 (mC + 9)) 0 kx) kx 0 = clrF (σ2 (mC + 9)) 0 (kx + 1) by have q := clrF_s (f := σ2 (mC + 9)) (fx := 0) (n := kx); rw [Nat.zero_add] at q; exact q]
                    refine r_iinc5 (q := 78) C dX9_copyBowings_75 rfl (by decide) ?_
                    refine r_goto (q := 61) C dX9_copyBowings_78 (by decide) ?_
                    exact ih0 (kx + 1) (by omega) (by omega)
              have h0 := lp0 _ 0 (Nat.lt_succ_self _) (by omega)
              rw [clrF_0, o_row_self] at h0
              exact h0
            · refine r_ifne_f (q := 54) (q2 := 51) C (by decide) (by omega) dX9_copyBowings_48 (by decide) rfl ?_
              rw [if_neg (fun hc => br45 hc.2.2)] at hs
              refine r_bipush (q := 53) C dX9_copyBowings_51 (by decide) rfl ?_
              exact r_iret C hr dX9_copyBowings_53 (by decide) (by decide) ⟨_, rfl, rfl, by rw [hs], by rw [hs], by rw [hs]; exact hH, by rw [hs]; exact htl, fun _ _ _ _ _ => rfl, fun _ _ => rfl⟩
          · refine r_ifeq_t (q := 51) C (by decide) (by omega) dX9_copyBowings_38 (by decide) ?_
            rw [if_neg (fun hc => br35 hc.2.1)] at hs
            refine r_bipush (q := 53) C dX9_copyBowings_51 (by decide) rfl ?_
            exact r_iret C hr dX9_copyBowings_53 (by decide) (by decide) ⟨_, rfl, rfl, by rw [hs], by rw [hs], by rw [hs]; exact hH, by rw [hs]; exact htl, fun _ _ _ _ _ => rfl, fun _ _ => rfl⟩
      · refine r_ifne_f (q := 27) (q2 := 25) C (by decide) (by omega) dX9_copyBowings_22 (by decide) rfl ?_
        refine r_iconst (q := 26) C dX9_copyBowings_25 rfl ?_
        exact r_iret C hr dX9_copyBowings_26 (by decide) (by decide) ⟨_, rfl, rfl, by rw [fCopyB, if_neg (fun hc => br19 hc.2.2)], by rw [fCopyB, if_neg (fun hc => br19 hc.2.2)], by rw [fCopyB, if_neg (fun hc => br19 hc.2.2)]; exact hH, by rw [fCopyB, if_neg (fun hc => br19 hc.2.2)]; exact htl, fun _ _ _ _ _ => rfl, fun _ _ => rfl⟩
    · refine r_ifeq_t (q := 25) C (by decide) (by omega) dX9_copyBowings_13 (by decide) ?_
      refine r_iconst (q := 26) C dX9_copyBowings_25 rfl ?_
      exact r_iret C hr dX9_copyBowings_26 (by decide) (by decide) ⟨_, rfl, rfl, by rw [fCopyB, if_neg (fun hc => br10 hc.2.1)], by rw [fCopyB, if_neg (fun hc => br10 hc.2.1)], by rw [fCopyB, if_neg (fun hc => br10 hc.2.1)]; exact hH, by rw [fCopyB, if_neg (fun hc => br10 hc.2.1)]; exact htl, fun _ _ _ _ _ => rfl, fun _ _ => rfl⟩
  · refine r_ifeq_t (q := 25) C (by decide) (by omega) dX9_copyBowings_5 (by decide) ?_
    refine r_iconst (q := 26) C dX9_copyBowings_25 rfl ?_
    exact r_iret C hr dX9_copyBowings_26 (by decide) (by decide) ⟨_, rfl, rfl, by rw [fCopyB, if_neg (fun hc => br2 hc.1)], by rw [fCopyB, if_neg (fun hc => br2 hc.1)], by rw [fCopyB, if_neg (fun hc => br2 hc.1)]; exact hH, by rw [fCopyB, if_neg (fun hc => br2 hc.1)]; exact htl, fun _ _ _ _ _ => rfl, fun _ _ => rfl⟩
