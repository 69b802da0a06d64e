/-! the reference: cut and insert -/
def o_row (σ : oM) (a : Nat) (g : Nat → Int) : oM := fun x => if x = a then g else σ x
theorem o_row_at {σ : oM} {a : Nat} {g : Nat → Int} : o_row σ a g a = g := if_pos rfl
theorem o_row_ne {σ : oM} {a x : Nat} {g : Nat → Int} (h : x ≠ a) : o_row σ a g x = σ x := if_neg h
theorem o_row_up {σ : oM} {a k : Nat} {g : Nat → Int} {v : Int} : o_up (o_row σ a g) a k v = o_row σ a (updF g k v) := by
  funext x
  by_cases hc : x = a
  · subst hc
    rw [o_upF, o_row_at, o_row_at]
  · rw [o_up_ne hc, o_row_ne hc, o_row_ne hc]
theorem o_row_row {σ : oM} {a : Nat} {g1 g2 : Nat → Int} : o_row (o_row σ a g1) a g2 = o_row σ a g2 := by
  funext x
  by_cases hc : x = a
  · subst hc
    rw [o_row_at, o_row_at]
  · rw [o_row_ne hc, o_row_ne hc, o_row_ne hc]
theorem o_row_self {σ : oM} {a : Nat} : o_row σ a (σ a) = σ := by
  funext x
  by_cases hc : x = a
  · subst hc
    rw [o_row_at]
  · rw [o_row_ne hc]
theorem movF_0 {f : Nat → Int} {dp sp : Nat} : movF f dp sp 0 = f := by
  funext x
  unfold movF
  rw [if_neg (by omega)]
theorem movF_ne {f : Nat → Int} {dp sp n x : Nat} (h : x < dp ∨ dp + n ≤ x) : movF f dp sp n x = f x := if_neg (by omega)
theorem movF_s {f : Nat → Int} {dp sp n : Nat} : updF (movF f dp sp n) (dp + n) (f (sp + n)) = movF f dp sp (n + 1) := by
  funext x
  by_cases hc : x = dp + n
  · subst hc
    rw [updF_at]
    unfold movF
    rw [if_pos (by omega), show dp + n - dp + sp = sp + n by omega]
  · rw [updF_ne hc]
    unfold movF
    by_cases h2 : dp ≤ x ∧ x < dp + n
    · rw [if_pos h2, if_pos (by omega)]
    · rw [if_neg h2, if_neg (by omega)]
theorem movF_app {f : Nat → Int} {dp sp n m : Nat} (h : dp ≤ sp) : movF (movF f dp sp n) (dp + n) (sp + n) m = movF f dp sp (n + m) := by
  funext x
  by_cases h1 : dp + n ≤ x ∧ x < dp + n + m
  · rw [show movF (movF f dp sp n) (dp + n) (sp + n) m x = movF f dp sp n (x - (dp + n) + (sp + n)) from if_pos h1, movF_ne (by omega)]
    unfold movF
    rw [if_pos (by omega), show x - (dp + n) + (sp + n) = x - dp + sp by omega]
  · rw [movF_ne (by omega)]
    unfold movF
    by_cases h2 : dp ≤ x ∧ x < dp + n
    · rw [if_pos h2, if_pos (by omega)]
    · rw [if_neg h2, if_neg (by omega)]
theorem movF_pre {f : Nat → Int} {dp sp n m : Nat} (h : sp ≤ dp) : movF (movF f (dp + m) (sp + m) n) dp sp m = movF f dp sp (n + m) := by
  funext x
  by_cases h1 : dp ≤ x ∧ x < dp + m
  · rw [show movF (movF f (dp + m) (sp + m) n) dp sp m x = movF f (dp + m) (sp + m) n (x - dp + sp) from if_pos h1, movF_ne (by omega)]
    unfold movF
    rw [if_pos (by omega)]
  · rw [movF_ne (by omega)]
    unfold movF
    by_cases h2 : dp + m ≤ x ∧ x < dp + m + n
    · rw [if_pos h2, if_pos (by omega), show x - (dp + m) + (sp + m) = x - dp + sp by omega]
    · rw [if_neg h2, if_neg (by omega)]
set_option maxRecDepth 20000 in
set_option maxHeartbeats 8000000 in
theorem c_X9_movesBar {T : oT} {σ : oM} {mC : Nat} (hM : oMm T mC) {eN fN tN : Nat} (heN : eN < 6) (hfN : 1 ≤ fN ∧ fN ≤ 99) (htN : 1 ≤ tN ∧ tN ≤ 99) (hne : fN ≠ tN) : MS yX9_movesBar cX9_movesBar 5 none 2 0 0 42 [og mC, oi ((eN : Nat) : Int), oi ((fN : Nat) : Int), oi ((tN : Nat) : Int)] T σ (oPv (fun σ2 => σ2 = o_row σ (mC + 1) (movF (σ (mC + 1)) (190 + 813 * eN + 8 * tN) (190 + 813 * eN + 8 * fN) 8)) T) := by
  have hMc := hM
  obtain ⟨hM0, hMr0, hMr1, hMr2, hMr3, hMr8, hMr9, hMr10, hMr11, hMr13, hMr14, hMr15, hMr16, hMr17, hMr18, hMr19, hMr20, hMk1, hMk2, hMk3, hMk4, hMk5, hMk6, hMk7, hMk8, hMk9, hMk10, hMk11, hMk12, hMk13, hMk14, hMk15, hMk16, hMT⟩ := hMc
  refine o_met (by decide +kernel) (Nat.le_of_ble_eq_true rfl) (fun p l ee s m args below meth c G b C hr hn => ?_)
  have C : oCx p s m args meth c G b RX9 cX9_movesBar 5 := C
  show oW p l ee ({ frames := 2, cells := 0, slots := 0, locals := 42 } : Room) s m args below meth c G b 5 0 0 (MQ below (o_Qc G b (oPv (fun σ2 => σ2 = o_row σ (mC + 1) (movF (σ (mC + 1)) (190 + 813 * eN + 8 * tN) (190 + 813 * eN + 8 * fN) 8)) T)) args s 0 0 (fun q => b ≤ q)) T σ 0 [some (og mC), some (oi ((eN : Nat) : Int)), some (oi ((fN : Nat) : Int)), some (oi ((tN : Nat) : Int)), none] []
  have lp : ∀ (n : Nat) (jx : Nat), 8 - jx < n → (jx ≤ 8) → oW p l ee ({ frames := 2, cells := 0, slots := 0, locals := 42 } : Room) s m args below meth c G b 5 0 0 (MQ below (o_Qc G b (oPv (fun σ2 => σ2 = o_row σ (mC + 1) (movF (σ (mC + 1)) (190 + 813 * eN + 8 * tN) (190 + 813 * eN + 8 * fN) 8)) T)) args s 0 0 (fun q => b ≤ q)) T (o_row σ (mC + 1) (movF (σ (mC + 1)) (190 + 813 * eN + 8 * tN) (190 + 813 * eN + 8 * fN) jx)) 3 [some (og mC), some (oi ((eN : Nat) : Int)), some (oi ((fN : Nat) : Int)), some (oi ((tN : Nat) : Int)), some (oi ((jx : Nat) : Int))] [] := by
    intro n
    induction n with
    | zero =>
      intro jx hms
      exact absurd hms (Nat.not_lt_zero _)
    | succ n ih =>
      intro jx hms h1
      refine r_il4 (q := 5) C dX9_movesBar_3 rfl ?_
      refine r_bipush (q := 7) C dX9_movesBar_5 (by decide) rfl ?_
      refine r_icge (q := 42) (q2 := 10) C (by omega) (by omega) dX9_movesBar_7 (by decide) rfl (fun br7 => ?_) (fun br7 => ?_)
      · exact r_vret C hr dX9_movesBar_42 (by decide) (by decide) ⟨rfl, rfl, by rw [show jx = 8 by omega]⟩
      · refine r_al0 (q := 11) C dX9_movesBar_10 rfl ?_
        refine r_getR (q := 14) C f_X9_9 dX9_movesBar_11 rfl rfl (by assumption) (by assumption) (by omega) ?_
        refine r_il1 (q := 15) C dX9_movesBar_14 rfl ?_
        refine r_il3 (q := 16) C dX9_movesBar_15 rfl ?_
        refine r_callS1 (q := 19) C (c_X9_placeOf) m_X9_132 dX9_movesBar_16 rfl rfl (by decide) (by decide) (Nat.le_of_ble_eq_true rfl) ?_
        refine r_il4 (q := 21) C dX9_movesBar_19 rfl ?_
        refine r_iadd (q := 22) C dX9_movesBar_21 rfl ?_
        refine r_al0 (q := 23) C dX9_movesBar_22 rfl ?_
        refine r_getR (q := 26) C f_X9_9 dX9_movesBar_23 rfl rfl (by assumption) (by assumption) (by omega) ?_
        refine r_il1 (q := 27) C dX9_movesBar_26 rfl ?_
        refine r_il2 (q := 28) C dX9_movesBar_27 rfl ?_
        refine r_callS1 (q := 31) C (c_X9_placeOf) m_X9_132 dX9_movesBar_28 rfl rfl (by decide) (by decide) (Nat.le_of_ble_eq_true rfl) ?_
        refine r_il4 (q := 33) C dX9_movesBar_31 rfl ?_
        refine r_iadd (q := 34) C dX9_movesBar_33 rfl ?_
        refine r_iald (q := 35) C (190 + 813 * eN + 8 * fN + jx) dX9_movesBar_34 rfl (by assumption) (by omega) (by omega) (by omega) (by decide) ?_
        rw [o_row_at, movF_ne (by omega)]
        refine r_iast (q := 36) C (190 + 813 * eN + 8 * tN + jx) dX9_movesBar_35 rfl (by assumption) (by omega) (by omega) (by omega) (by decide) ?_
        rw [o_row_up, movF_s]
        refine r_iinc4 (q := 39) C dX9_movesBar_36 rfl (by decide) ?_
        refine r_goto (q := 3) C dX9_movesBar_39 (by decide) ?_
        exact ih (jx + 1) (by omega) (by omega)
  refine r_iconst (q := 1) C dX9_movesBar_0 rfl ?_
  refine r_is4 (q := 3) C dX9_movesBar_1 rfl (by decide) ?_
  have h0 := lp _ 0 (Nat.lt_succ_self _) (by omega)
  rw [movF_0, o_row_self] at h0
  exact h0
set_option maxRecDepth 20000 in
set_option maxHeartbeats 8000000 in
theorem c_X9_cut {T : oT} {σ : oM} {mC : Nat} (hM : oMm T mC) {Bd : Int} (hI : oI Bd (σ (mC + 1))) {Lh : List (Nat → Int)} (hH : oMH σ mC Lh) (h7 : σ mC 7 = 0 ∨ σ mC 7 = 1) {z v w : Int} (hz : o_r z) (hv : o_r v) (hw : o_r w) : MS yX9_cut cX9_cut 6 (some FieldType.int) 3 0 0 66 [og mC, oi z, oi v, oi w] T σ (oPs (fun zx σ2 => zx = (fCut (σ (mC + 1)) (σ mC 5) z v w).1 ∧ oMc σ σ2 mC (fCut (σ (mC + 1)) (σ mC 5) z v w).2.1 (settleL (fCut (σ (mC + 1)) (σ mC 5) z v w).1 (σ mC 7) Lh (σ (mC + 1))) (fCut (σ (mC + 1)) (σ mC 5) z v w).2.2) T) := by
  have hMc := hM
  obtain ⟨hM0, hMr0, hMr1, hMr2, hMr3, hMr8, hMr9, hMr10, hMr11, hMr13, hMr14, hMr15, hMr16, hMr17, hMr18, hMr19, hMr20, hMk1, hMk2, hMk3, hMk4, hMk5, hMk6, hMk7, hMk8, hMk9, hMk10, hMk11, hMk12, hMk13, hMk14, hMk15, hMk16, hMT⟩ := hMc
  have hI0 := hI.2.1
  have hI1 := hI.2.2.1
  have hI2 := hI.2.2.2.1
  have hIn := oI_n hI
  have hIB := hI.1
  refine o_met (by decide +kernel) (Nat.le_of_ble_eq_true rfl) (fun p l ee s m args below meth c G b C hr hn => ?_)
  have C : oCx p s m args meth c G b RX9 cX9_cut 6 := C
  show oW p l ee ({ frames := 3, cells := 0, slots := 0, locals := 66 } : Room) s m args below meth c G b 6 0 0 (MQ below (o_Qc G b (oPs (fun zx σ2 => zx = (fCut (σ (mC + 1)) (σ mC 5) z v w).1 ∧ oMc σ σ2 mC (fCut (σ (mC + 1)) (σ mC 5) z v w).2.1 (settleL (fCut (σ (mC + 1)) (σ mC 5) z v w).1 (σ mC 7) Lh (σ (mC + 1))) (fCut (σ (mC + 1)) (σ mC 5) z v w).2.2) T)) args s 0 0 (fun q => b ≤ q)) T σ 0 [some (og mC), some (oi z), some (oi v), some (oi w), none, none] []
  refine r_al0 (q := 1) C dX9_cut_0 rfl ?_
  refine r_il1 (q := 2) C dX9_cut_1 rfl ?_
  refine r_il2 (q := 3) C dX9_cut_2 rfl ?_
  refine r_callVb (q := 6) C (c_X9_isBar hM hI (by omega) (by omega)) m_X9_135 (by assumption) (by omega) dX9_cut_3 rfl rfl (by decide) (by decide) (Nat.le_of_ble_eq_true rfl) (fun br3 => ?_) (fun br3 => ?_)
  · refine r_ifeq_f (q := 18) (q2 := 9) C (by decide) (by omega) dX9_cut_6 (by decide) rfl ?_
    refine r_al0 (q := 10) C dX9_cut_9 rfl ?_
    refine r_il1 (q := 11) C dX9_cut_10 rfl ?_
    refine r_il3 (q := 12) C dX9_cut_11 rfl ?_
    refine r_callVb (q := 15) C (c_X9_isBar hM hI (by omega) (by omega)) m_X9_135 (by assumption) (by omega) dX9_cut_12 rfl rfl (by decide) (by decide) (Nat.le_of_ble_eq_true rfl) (fun br12 => ?_) (fun br12 => ?_)
    · refine r_ifne_t (q := 20) C (by decide) (by omega) dX9_cut_15 (by decide) ?_
      obtain ⟨eN, fN, rfl, rfl, heN, heN6, hfN1, hfN2, hfN9⟩ := isBr_n hI br3
      have hIE := oI_b hI heN
      have hIb := hIE.1.2.2.2.2 fN hfN1 hfN2
      obtain ⟨tN, rfl⟩ : ∃ tN : Nat, w = (tN : Int) := ⟨w.toNat, by have := br12.2.1; omega⟩
      have htB : 1 ≤ tN ∧ tN ≤ nBr (σ (mC + 1)) eN := by
        have h1 := br12.2.1
        have h2 := br12.2.2
        rw [Int.toNat_natCast] at h2
        omega
      have hs := fCut.eq_1 (σ (mC + 1)) (σ mC 5) (eN : Int) (fN : Int) (tN : Int)
      rw [if_pos ⟨br3, br12⟩] at hs
      simp only [Int.toNat_natCast] at hs
      have hbo : o_r (boughtF (σ (mC + 1)) eN) := by
        have h6 := sumF_in (f := fun ix => σ (mC + 1) (180 + 813 * eN + 3 * ix)) (n := 6) (lo := 0) (hi := 30) (fun j hj => (hIE.1.2.2.2.1 j hj).1)
        unfold boughtF
        omega
      refine r_il3 (q := 21) C dX9_cut_20 rfl ?_
      refine r_il2 (q := 22) C dX9_cut_21 rfl ?_
      refine r_iclt (q := 38) (q2 := 25) C (by omega) (by omega) dX9_cut_22 (by decide) rfl (fun br22 => ?_) (fun br22 => ?_)
      · refine r_bipush (q := 40) C dX9_cut_38 (by decide) rfl ?_
        exact r_iret C hr dX9_cut_40 (by decide) (by decide) ⟨_, rfl, rfl, by rw [hs, if_pos (by omega)], by rw [hs, if_pos (by omega)]; rw [settle_n (by simp)]; exact oMc_no hH⟩
      · refine r_il3 (q := 26) C dX9_cut_25 rfl ?_
        refine r_il2 (q := 27) C dX9_cut_26 rfl ?_
        refine r_isub (q := 28) C dX9_cut_27 rfl ?_
        refine r_iconst (q := 29) C dX9_cut_28 rfl ?_
        refine r_iadd (q := 30) C dX9_cut_29 rfl ?_
        refine r_al0 (q := 31) C dX9_cut_30 rfl ?_
        refine r_il1 (q := 32) C dX9_cut_31 rfl ?_
        refine r_callV1 (q := 35) C (c_X9_bars (eN := eN) hM (by omega)) m_X9_116 (by assumption) (by omega) dX9_cut_32 rfl rfl (by decide) (by decide) (Nat.le_of_ble_eq_true rfl) ?_
        refine r_icne (q := 41) (q2 := 38) C (by omega) (by omega) dX9_cut_35 (by decide) rfl (fun br35 => ?_) (fun br35 => ?_)
        · rw [if_neg (by omega)] at hs
          refine r_al0 (q := 42) C dX9_cut_41 rfl ?_
          refine r_il1 (q := 43) C dX9_cut_42 rfl ?_
          refine r_callV1 (q := 46) C (c_X9_boughtAll (eN := eN) hM (by omega)) m_X9_139 (by assumption) (by omega) dX9_cut_43 rfl rfl (by decide) (by decide) (Nat.le_of_ble_eq_true rfl) ?_
          refine r_ifle (q := 55) (q2 := 49) C (by omega) dX9_cut_46 (by decide) rfl (fun br46 => ?_) (fun br46 => ?_)
          · rw [if_neg (by omega)] at hs
            refine r_al0 (q := 56) C dX9_cut_55 rfl ?_
            refine r_callVv (q := 59) C (c_X9_keeps hM hH h7) m_X9_129 (by assumption) (by omega) dX9_cut_56 rfl rfl (by decide) (by decide) (Nat.le_of_ble_eq_true rfl) (fun σ2 hσ2 => ?_)
            have e1 := hσ2.2.1 (mC + 1) (by omega) (by omega)
            refine r_il3 (q := 60) C dX9_cut_59 rfl ?_
            refine r_il2 (q := 61) C dX9_cut_60 rfl ?_
            refine r_isub (q := 62) C dX9_cut_61 rfl ?_
            refine r_iconst (q := 63) C dX9_cut_62 rfl ?_
            refine r_iadd (q := 64) C dX9_cut_63 rfl ?_
            obtain ⟨nN, hnN⟩ : ∃ nN : Nat, nN = tN + 1 - fN := ⟨_, rfl⟩
            rw [← hnN] at hs
            rw [show ((tN : Nat) : Int) - ((fN : Nat) : Int) + 1 = ((nN : Nat) : Int) by omega]
            refine r_is4 (q := 66) C dX9_cut_64 rfl (by decide) ?_
            refine r_il3 (q := 67) C dX9_cut_66 rfl ?_
            refine r_iconst (q := 68) C dX9_cut_67 rfl ?_
            refine r_iadd (q := 69) C dX9_cut_68 rfl ?_
            refine r_is5 (q := 71) C dX9_cut_69 rfl (by decide) ?_
            have hfin : updF (movF (σ (mC + 1)) (190 + 813 * eN + 8 * fN) (190 + 813 * eN + 8 * (tN + 1)) (8 * (nBr (σ (mC + 1)) eN + 1 - (tN + 1)))) (178 + 813 * eN) (σ (mC + 1) (178 + 813 * eN) - ((nN : Nat) : Int)) = cutA (σ (mC + 1)) eN fN nN := by
              funext x
              by_cases hx : x = 178 + 813 * eN
              · subst hx
                rw [updF_at, cutA_at]
              · rw [updF_ne hx]
                unfold cutA movF
                rw [if_neg hx]
                by_cases h2 : 190 + 813 * eN + 8 * fN ≤ x ∧ x + 8 * nN < 198 + 813 * eN + 8 * nBr (σ (mC + 1)) eN
                · rw [if_pos h2, if_pos (by omega), show x - (190 + 813 * eN + 8 * fN) + (190 + 813 * eN + 8 * (tN + 1)) = x + 8 * nN by omega]
                · rw [if_neg h2, if_neg (by omega)]
            have lp : ∀ (n : Nat) (jx : Nat), nBr (σ (mC + 1)) eN + 1 - jx < n → (tN + 1 ≤ jx ∧ jx ≤ nBr (σ (mC + 1)) eN + 1) → oW p l ee ({ frames := 3, cells := 0, slots := 0, locals := 66 } : Room) s m args below meth c G b 6 0 0 (MQ below (o_Qc G b (oPs (fun zx σ2 => zx = (fCut (σ (mC + 1)) (σ mC 5) (eN : Int) (fN : Int) (tN : Int)).1 ∧ oMc σ σ2 mC (fCut (σ (mC + 1)) (σ mC 5) (eN : Int) (fN : Int) (tN : Int)).2.1 (settleL (fCut (σ (mC + 1)) (σ mC 5) (eN : Int) (fN : Int) (tN : Int)).1 (σ mC 7) Lh (σ (mC + 1))) (fCut (σ (mC + 1)) (σ mC 5) (eN : Int) (fN : Int) (tN : Int)).2.2) T)) args s 0 0 (fun q => b ≤ q)) T (o_row σ2 (mC + 1) (movF (σ (mC + 1)) (190 + 813 * eN + 8 * fN) (190 + 813 * eN + 8 * (tN + 1)) (8 * (jx - (tN + 1))))) 71 [some (og mC), some (oi ((eN : Nat) : Int)), some (oi ((fN : Nat) : Int)), some (oi ((tN : Nat) : Int)), some (oi ((nN : Nat) : Int)), some (oi ((jx : Nat) : Int))] [] := by
              intro n
              induction n with
              | zero =>
                intro jx hms
                exact absurd hms (Nat.not_lt_zero _)
              | succ n ih =>
                intro jx hms h1
                refine r_il5 (q := 73) C dX9_cut_71 rfl ?_
                refine r_al0 (q := 74) C dX9_cut_73 rfl ?_
                refine r_il1 (q := 75) C dX9_cut_74 rfl ?_
                refine r_callV1 (q := 78) C (c_X9_bars (eN := eN) hM (by omega)) m_X9_116 (by assumption) (by omega) dX9_cut_75 rfl rfl (by decide) (by decide) (Nat.le_of_ble_eq_true rfl) ?_
                rw [o_row_at, movF_ne (by omega), ← hIE.2.1]
                refine r_icgt (q := 99) (q2 := 81) C (by omega) (by omega) dX9_cut_78 (by decide) rfl (fun br78 => ?_) (fun br78 => ?_)
                · refine r_al0 (q := 100) C dX9_cut_99 rfl ?_
                  refine r_getR (q := 103) C f_X9_9 dX9_cut_100 rfl rfl (by assumption) (by assumption) (by omega) ?_
                  refine r_il1 (q := 104) C dX9_cut_103 rfl ?_
                  refine r_iconst (q := 105) C dX9_cut_104 rfl ?_
                  refine r_callS1 (q := 108) C (c_X9_at) m_X9_105 dX9_cut_105 rfl rfl (by decide) (by decide) (Nat.le_of_ble_eq_true rfl) ?_
                  refine r_dup2 (q := 109) C dX9_cut_108 rfl ?_
                  refine r_iald (q := 110) C ((178 + 813 * eN)) dX9_cut_109 rfl (by assumption) (by omega) (by omega) (by omega) (by decide) ?_
                  rw [o_row_at, movF_ne (by omega)]
                  refine r_il4 (q := 112) C dX9_cut_110 rfl ?_
                  refine r_isub (q := 113) C dX9_cut_112 rfl ?_
                  refine r_iast (q := 114) C ((178 + 813 * eN)) dX9_cut_113 rfl (by assumption) (by omega) (by omega) (by omega) (by decide) ?_
                  rw [o_row_up]
                  refine r_al0 (q := 115) C dX9_cut_114 rfl ?_
                  refine r_il1 (q := 116) C dX9_cut_115 rfl ?_
                  refine r_callV1 (q := 119) C (c_X9_bars (eN := eN) hM (by omega)) m_X9_116 (by assumption) (by omega) dX9_cut_116 rfl rfl (by decide) (by decide) (Nat.le_of_ble_eq_true rfl) ?_
                  rw [o_row_at, updF_at]
                  exact r_iret C hr dX9_cut_119 (by decide) (by decide) ⟨_, rfl, rfl, by rw [hs]; omega, by rw [hs, settle_y (by show 0 ≤ σ (mC + 1) (178 + 813 * eN) - ((tN : Int) - fN + 1) ∨ _; omega)]; exact oMc_of hσ2 (fun x hx => o_row_ne hx) (by rw [o_row_at, show jx = nBr (σ (mC + 1)) eN + 1 by omega]; exact hfin)⟩
                · refine r_al0 (q := 82) C dX9_cut_81 rfl ?_
                  refine r_il1 (q := 83) C dX9_cut_82 rfl ?_
                  refine r_il5 (q := 85) C dX9_cut_83 rfl ?_
                  refine r_il5 (q := 87) C dX9_cut_85 rfl ?_
                  refine r_il4 (q := 89) C dX9_cut_87 rfl ?_
                  refine r_isub (q := 90) C dX9_cut_89 rfl ?_
                  rw [show ((jx : Nat) : Int) - ((nN : Nat) : Int) = ((jx - nN : Nat) : Int) by omega]
                  refine r_callVv (q := 93) C (c_X9_movesBar (eN := eN) (fN := jx) (tN := jx - nN) hM (by omega) (by omega) (by omega) (by omega)) m_X9_145 (by assumption) (by omega) dX9_cut_90 rfl rfl (by decide) (by decide) (Nat.le_of_ble_eq_true rfl) (fun σ3 hσ3 => ?_)
                  rw [o_row_at, o_row_row, show 190 + 813 * eN + 8 * (jx - nN) = 190 + 813 * eN + 8 * fN + 8 * (jx - (tN + 1)) by omega, show 190 + 813 * eN + 8 * jx = 190 + 813 * eN + 8 * (tN + 1) + 8 * (jx - (tN + 1)) by omega, movF_app (by omega), show 8 * (jx - (tN + 1)) + 8 = 8 * (jx + 1 - (tN + 1)) by omega] at hσ3
                  rw [hσ3]
                  refine r_iinc5 (q := 96) C dX9_cut_93 rfl (by decide) ?_
                  refine r_goto (q := 71) C dX9_cut_96 (by decide) ?_
                  exact ih (jx + 1) (by omega) (by omega)
            have h0 := lp _ (tN + 1) (Nat.lt_succ_self _) (by omega)
            rw [Nat.sub_self, Nat.mul_zero, movF_0, show o_row σ2 (mC + 1) (σ (mC + 1)) = σ2 by rw [← e1]; exact o_row_self] at h0
            exact h0
          · refine r_al0 (q := 50) C dX9_cut_49 rfl ?_
            refine r_iconst (q := 51) C dX9_cut_50 rfl ?_
            refine r_callVs (q := 54) C (c_X9_refuses hM) m_X9_142 (by assumption) (by omega) dX9_cut_51 rfl rfl (by decide) (by decide) (Nat.le_of_ble_eq_true rfl) (fun z2 σ2 hσ2 => ?_)
            refine r_iret C hr dX9_cut_54 (by decide) (by decide) ?_
            obtain ⟨rfl, rfl⟩ := hσ2
            exact ⟨_, rfl, rfl, by rw [hs, if_pos (by omega)], by rw [hs, if_pos (by omega), settle_n (by simp)]; exact oMc_re hH⟩
        · refine r_bipush (q := 40) C dX9_cut_38 (by decide) rfl ?_
          exact r_iret C hr dX9_cut_40 (by decide) (by decide) ⟨_, rfl, rfl, by rw [hs, if_pos (by omega)], by rw [hs, if_pos (by omega)]; rw [settle_n (by simp)]; exact oMc_no hH⟩
    · refine r_ifne_f (q := 20) (q2 := 18) C (by decide) (by omega) dX9_cut_15 (by decide) rfl ?_
      refine r_iconst (q := 19) C dX9_cut_18 rfl ?_
      exact r_iret C hr dX9_cut_19 (by decide) (by decide) ⟨_, rfl, rfl, by rw [fCut, if_neg (fun hc => br12 hc.2)], by rw [fCut, if_neg (fun hc => br12 hc.2)]; rw [settle_n (by simp)]; exact oMc_no hH⟩
  · refine r_ifeq_t (q := 18) C (by decide) (by omega) dX9_cut_6 (by decide) ?_
    refine r_iconst (q := 19) C dX9_cut_18 rfl ?_
    exact r_iret C hr dX9_cut_19 (by decide) (by decide) ⟨_, rfl, rfl, by rw [fCut, if_neg (fun hc => br3 hc.1)], by rw [fCut, if_neg (fun hc => br3 hc.1)]; rw [settle_n (by simp)]; exact oMc_no hH⟩
