/-- jN of cN new bars numbered -/
def insG (A : Nat → Int) (eN hN cN jN wN : Nat) (bt : Int) : Nat → Int := fun x =>
  if x = 178 + 813 * eN then A x + (cN : Int) else if x = 3 + wN then A x + (jN : Int)
  else if 198 + 813 * eN + 8 * hN ≤ x ∧ x < 198 + 813 * eN + 8 * (hN + jN) then newB ((x - (198 + 813 * eN + 8 * hN)) % 8) (A (3 + wN) + (((x - (198 + 813 * eN + 8 * hN)) / 8 : Nat) : Int) + 1) bt
  else if 198 + 813 * eN + 8 * (hN + cN) ≤ x ∧ x < 198 + 813 * eN + 8 * (nBr A eN + cN) then A (x - 8 * cN) else A x
theorem insG_e {A : Nat → Int} {eN hN cN wN : Nat} {bt : Int} : insG A eN hN cN cN wN bt = insA A eN hN cN wN bt := rfl
theorem insG_0 {A : Nat → Int} {eN hN cN wN : Nat} {bt : Int} (hw : wN < 4) (hh : hN ≤ nBr A eN) : updF (movF A (190 + 813 * eN + 8 * (hN + 1 + cN)) (190 + 813 * eN + 8 * (hN + 1)) (8 * (nBr A eN - hN))) (178 + 813 * eN) (A (178 + 813 * eN) + (cN : Int)) = insG A eN hN cN 0 wN bt := by
  funext x
  unfold insG
  by_cases hx : x = 178 + 813 * eN
  · subst hx
    rw [updF_at, if_pos rfl]
  · rw [updF_ne hx, if_neg hx]
    unfold movF
    by_cases h2 : x = 3 + wN
    · rw [if_pos h2, if_neg (by omega)]
      show A x = A x + 0
      omega
    · rw [if_neg h2, if_neg (show ¬ (198 + 813 * eN + 8 * hN ≤ x ∧ x < 198 + 813 * eN + 8 * (hN + 0)) by omega)]
      by_cases h3 : 198 + 813 * eN + 8 * (hN + cN) ≤ x ∧ x < 198 + 813 * eN + 8 * (nBr A eN + cN)
      · rw [if_pos h3, if_pos (by omega), show x - (190 + 813 * eN + 8 * (hN + 1 + cN)) + (190 + 813 * eN + 8 * (hN + 1)) = x - 8 * cN by omega]
      · rw [if_neg h3, if_neg (by omega)]
theorem insG_w {A : Nat → Int} {eN hN cN jN wN : Nat} {bt : Int} (hw : wN < 4) : insG A eN hN cN jN wN bt (3 + wN) = A (3 + wN) + (jN : Int) := by
  unfold insG
  rw [if_neg (by omega), if_pos rfl]
theorem insG_s {A : Nat → Int} {eN hN cN jN wN : Nat} {bt : Int} (hw : wN < 4) (hj : jN < cN) : updF (updF (updF (clrF (insG A eN hN cN jN wN bt) (198 + 813 * eN + 8 * (hN + jN)) 8) (3 + wN) (A (3 + wN) + (jN : Int) + 1)) (198 + 813 * eN + 8 * (hN + jN)) (A (3 + wN) + (jN : Int) + 1)) (200 + 813 * eN + 8 * (hN + jN)) bt = insG A eN hN cN (jN + 1) wN bt := by
  funext x
  by_cases hx : 198 + 813 * eN + 8 * (hN + jN) ≤ x ∧ x < 198 + 813 * eN + 8 * (hN + jN) + 8
  · obtain ⟨kx, rfl⟩ : ∃ kx, x = 198 + 813 * eN + 8 * (hN + jN) + kx := ⟨x - (198 + 813 * eN + 8 * (hN + jN)), by omega⟩
    have er : insG A eN hN cN (jN + 1) wN bt (198 + 813 * eN + 8 * (hN + jN) + kx) = newB kx (A (3 + wN) + (jN : Int) + 1) bt := by
      unfold insG
      rw [if_neg (by omega), if_neg (by omega), if_pos (by omega), show (198 + 813 * eN + 8 * (hN + jN) + kx - (198 + 813 * eN + 8 * hN)) % 8 = kx by omega, show (198 + 813 * eN + 8 * (hN + jN) + kx - (198 + 813 * eN + 8 * hN)) / 8 = jN by omega]
    rw [er]
    unfold newB
    by_cases k0x : kx = 0
    · subst k0x
      rw [if_pos rfl, Nat.add_zero, updF_ne (by omega), updF_at]
    · rw [if_neg k0x]
      by_cases k2x : kx = 2
      · subst k2x
        rw [if_pos rfl, show 198 + 813 * eN + 8 * (hN + jN) + 2 = 200 + 813 * eN + 8 * (hN + jN) by omega, updF_at]
      · rw [if_neg k2x, updF_ne (by omega), updF_ne (by omega), updF_ne (by omega)]
        unfold clrF
        rw [if_pos (by omega)]
  · rw [updF_ne (by omega), updF_ne (by omega)]
    by_cases h2 : x = 3 + wN
    · subst h2
      rw [updF_at, insG_w hw]
      show A (3 + wN) + (jN : Int) + 1 = A (3 + wN) + ((jN : Int) + 1)
      omega
    · rw [updF_ne h2]
      unfold clrF
      rw [if_neg hx]
      unfold insG
      by_cases h3 : x = 178 + 813 * eN
      · rw [if_pos h3, if_pos h3]
      · rw [if_neg h3, if_neg h3, if_neg h2, if_neg h2]
        by_cases h4 : 198 + 813 * eN + 8 * hN ≤ x ∧ x < 198 + 813 * eN + 8 * (hN + jN)
        · rw [if_pos h4, if_pos (by omega)]
        · rw [if_neg h4, if_neg (show ¬ (198 + 813 * eN + 8 * hN ≤ x ∧ x < 198 + 813 * eN + 8 * (hN + (jN + 1))) by omega)]
theorem clrF_0 {f : Nat → Int} {fx : Nat} : clrF f fx 0 = f := by
  funext x
  unfold clrF
  rw [if_neg (by omega)]
theorem clrF_s {f : Nat → Int} {fx n : Nat} : updF (clrF f fx n) (fx + n) 0 = clrF f fx (n + 1) := by
  funext x
  by_cases hc : x = fx + n
  · subst hc
    rw [updF_at]
    unfold clrF
    rw [if_pos (by omega)]
  · rw [updF_ne hc]
    unfold clrF
    by_cases h2 : fx ≤ x ∧ x < fx + n
    · rw [if_pos h2, if_pos (by omega)]
    · rw [if_neg h2, if_neg (by omega)]
theorem clrF_ne {f : Nat → Int} {fx n x : Nat} (h : x < fx ∨ fx + n ≤ x) : clrF f fx n x = f x := if_neg (by omega)
set_option maxRecDepth 20000 in
set_option maxHeartbeats 8000000 in
theorem c_X9_insert {T : oT} {σ : oM} {mC : Nat} (hM : oMm T mC) {Bd : Int} (hI : oI Bd (σ (mC + 1))) {Lh : List (Nat → Int)} (hH : oMH σ mC Lh) (h7 : σ mC 7 = 0 ∨ σ mC 7 = 1) {z v w u : Int} (hz : o_r z) (hv : o_r v) (hw : o_r w) (hu : o_r u) : MS yX9_insert cX9_insert 8 (some FieldType.int) 3 0 0 66 [og mC, oi z, oi v, oi w, oi u] T σ (oPs (fun zx σ2 => zx = (fIns (σ (mC + 1)) (σ mC 5) z v w u).1 ∧ oMc σ σ2 mC (fIns (σ (mC + 1)) (σ mC 5) z v w u).2.1 (settleL (fIns (σ (mC + 1)) (σ mC 5) z v w u).1 (σ mC 7) Lh (σ (mC + 1))) (fIns (σ (mC + 1)) (σ mC 5) z v w u).2.2) T) := by
  have hMc := hM
  obtain ⟨hM0, hMr0, hMr1, hMr2, hMr3, hMr8, hMr9, hMr10, hMr11, hMr13, hMr14, hMr15, hMr16, hMr17, hMr18, hMr19, hMr20, hMk1, hMk2, hMk3, hMk4, hMk5, hMk6, hMk7, hMk8, hMk9, hMk10, hMk11, hMk12, hMk13, hMk14, hMk15, hMk16, hMT⟩ := hMc
  have hI0 := hI.2.1
  have hI1 := hI.2.2.1
  have hI2 := hI.2.2.2.1
  have hIn := oI_n hI
  have hIB := hI.1
  refine o_met (by decide +kernel) (Nat.le_of_ble_eq_true rfl) (fun p l ee s m args below meth c G b C hr hn => ?_)
  have C : oCx p s m args meth c G b RX9 cX9_insert 8 := C
  show oW p l ee ({ frames := 3, cells := 0, slots := 0, locals := 66 } : Room) s m args below meth c G b 8 0 0 (MQ below (o_Qc G b (oPs (fun zx σ2 => zx = (fIns (σ (mC + 1)) (σ mC 5) z v w u).1 ∧ oMc σ σ2 mC (fIns (σ (mC + 1)) (σ mC 5) z v w u).2.1 (settleL (fIns (σ (mC + 1)) (σ mC 5) z v w u).1 (σ mC 7) Lh (σ (mC + 1))) (fIns (σ (mC + 1)) (σ mC 5) z v w u).2.2) T)) args s 0 0 (fun q => b ≤ q)) T σ 0 [some (og mC), some (oi z), some (oi v), some (oi w), some (oi u), none, none, none] []
  refine r_al0 (q := 1) C dX9_insert_0 rfl ?_
  refine r_il1 (q := 2) C dX9_insert_1 rfl ?_
  refine r_callVb (q := 5) C (c_X9_isEdition hM hI (by omega)) m_X9_112 (by assumption) (by omega) dX9_insert_2 rfl rfl (by decide) (by decide) (Nat.le_of_ble_eq_true rfl) (fun br2 => ?_) (fun br2 => ?_)
  · refine r_ifeq_f (q := 21) (q2 := 8) C (by decide) (by omega) dX9_insert_5 (by decide) rfl ?_
    obtain ⟨eN, rfl, heN, heN6⟩ := isEd_n hI br2
    have hIE := oI_b hI heN
    refine r_il2 (q := 9) C dX9_insert_8 rfl ?_
    refine r_iconst (q := 10) C dX9_insert_9 rfl ?_
    refine r_al0 (q := 11) C dX9_insert_10 rfl ?_
    refine r_il1 (q := 12) C dX9_insert_11 rfl ?_
    refine r_callV1 (q := 15) C (c_X9_bars (eN := eN) hM (by omega)) m_X9_116 (by assumption) (by omega) dX9_insert_12 rfl rfl (by decide) (by decide) (Nat.le_of_ble_eq_true rfl) ?_
    rw [← hIE.2.1]
    refine r_callSb (q := 18) C (c_X9_in hv (by omega) (by omega)) m_X9_108 dX9_insert_15 rfl rfl (by decide) (by decide) (Nat.le_of_ble_eq_true rfl) (fun br15 => ?_) (fun br15 => ?_)
    · refine r_ifne_t (q := 23) C (by decide) (by omega) dX9_insert_18 (by decide) ?_
      obtain ⟨hN, rfl⟩ : ∃ hN : Nat, v = (hN : Int) := ⟨v.toNat, by omega⟩
      have hs := fIns.eq_1 (σ (mC + 1)) (σ mC 5) (eN : Int) (hN : Int) w u
      rw [if_pos ⟨br2, by omega, by rw [Int.toNat_natCast, ← hIE.2.1]; exact br15.2⟩] at hs
      simp only [Int.toNat_natCast] at hs
      have hbo : o_r (boughtF (σ (mC + 1)) eN) := by
        have h6 := sumF_in (f := fun ix => σ (mC + 1) (180 + 813 * eN + 3 * ix)) (n := 6) (lo := 0) (hi := 30) (fun j hj => (hIE.1.2.2.2.1 j hj).1)
        unfold boughtF
        omega
      refine r_il3 (q := 24) C dX9_insert_23 rfl ?_
      refine r_iconst (q := 25) C dX9_insert_24 rfl ?_
      refine r_bipush (q := 27) C dX9_insert_25 (by decide) rfl ?_
      refine r_callSb (q := 30) C (c_X9_in hw (by omega) (by omega)) m_X9_108 dX9_insert_27 rfl rfl (by decide) (by decide) (Nat.le_of_ble_eq_true rfl) (fun br27 => ?_) (fun br27 => ?_)
      · refine r_ifeq_f (q := 44) (q2 := 33) C (by decide) (by omega) dX9_insert_30 (by decide) rfl ?_
        refine r_il4 (q := 35) C dX9_insert_33 rfl ?_
        refine r_iconst (q := 36) C dX9_insert_35 rfl ?_
        refine r_bipush (q := 38) C dX9_insert_36 (by decide) rfl ?_
        refine r_callSb (q := 41) C (c_X9_in hu (by omega) (by omega)) m_X9_108 dX9_insert_38 rfl rfl (by decide) (by decide) (Nat.le_of_ble_eq_true rfl) (fun br38 => ?_) (fun br38 => ?_)
        · refine r_ifne_t (q := 47) C (by decide) (by omega) dX9_insert_41 (by decide) ?_
          rw [if_pos ⟨br27, br38⟩] at hs
          obtain ⟨cN, rfl⟩ : ∃ cN : Nat, w = (cN : Int) := ⟨w.toNat, by omega⟩
          simp only [Int.toNat_natCast] at hs
          refine r_al0 (q := 48) C dX9_insert_47 rfl ?_
          refine r_il1 (q := 49) C dX9_insert_48 rfl ?_
          refine r_callV1 (q := 52) C (c_X9_bars (eN := eN) hM (by omega)) m_X9_116 (by assumption) (by omega) dX9_insert_49 rfl rfl (by decide) (by decide) (Nat.le_of_ble_eq_true rfl) ?_
          refine r_il3 (q := 53) C dX9_insert_52 rfl ?_
          refine r_iadd (q := 54) C dX9_insert_53 rfl ?_
          refine r_bipush (q := 56) C dX9_insert_54 (by decide) rfl ?_
          refine r_icle (q := 62) (q2 := 59) C (by omega) (by omega) dX9_insert_56 (by decide) rfl (fun br56 => ?_) (fun br56 => ?_)
          · rw [if_neg (by omega)] at hs
            refine r_al0 (q := 63) C dX9_insert_62 rfl ?_
            refine r_il1 (q := 64) C dX9_insert_63 rfl ?_
            refine r_callV1 (q := 67) C (c_X9_boughtAll (eN := eN) hM (by omega)) m_X9_139 (by assumption) (by omega) dX9_insert_64 rfl rfl (by decide) (by decide) (Nat.le_of_ble_eq_true rfl) ?_
            refine r_ifle (q := 76) (q2 := 70) C (by omega) dX9_insert_67 (by decide) rfl (fun br67 => ?_) (fun br67 => ?_)
            · rw [if_neg (by omega)] at hs
              obtain ⟨wN, hwn⟩ : ∃ wN : Nat, σ (mC + 1) (177 + 813 * eN) = (wN : Int) := ⟨(σ (mC + 1) (177 + 813 * eN)).toNat, by have := hIE.1.1; omega⟩
              have hw4 : wN < 4 := by have := hIE.1.1; omega
              rw [hwn, Int.toNat_natCast] at hs
              have hgb := (hI.2.2.2.2.1 wN hw4).1
              refine r_al0 (q := 77) C dX9_insert_76 rfl ?_
              refine r_callVv (q := 80) C (c_X9_keeps hM hH h7) m_X9_129 (by assumption) (by omega) dX9_insert_77 rfl rfl (by decide) (by decide) (Nat.le_of_ble_eq_true rfl) (fun σ2 hσ2 => ?_)
              have e1 := hσ2.2.1 (mC + 1) (by omega) (by omega)
              refine r_al0 (q := 81) C dX9_insert_80 rfl ?_
              refine r_getR (q := 84) C f_X9_9 dX9_insert_81 rfl rfl (by assumption) (by assumption) (by omega) ?_
              refine r_il1 (q := 85) C dX9_insert_84 rfl ?_
              refine r_iconst (q := 86) C dX9_insert_85 rfl ?_
              refine r_callS1 (q := 89) C (c_X9_at) m_X9_105 dX9_insert_86 rfl rfl (by decide) (by decide) (Nat.le_of_ble_eq_true rfl) ?_
              refine r_iald (q := 90) C ((177 + 813 * eN)) dX9_insert_89 rfl (by assumption) (by omega) (by omega) (by omega) (by decide) ?_
              rw [e1, hwn]
              refine r_is5 (q := 92) C dX9_insert_90 rfl (by decide) ?_
              refine r_al0 (q := 93) C dX9_insert_92 rfl ?_
              refine r_il1 (q := 94) C dX9_insert_93 rfl ?_
              refine r_callV1 (q := 97) C (c_X9_bars (eN := eN) hM (by omega)) m_X9_116 (by assumption) (by omega) dX9_insert_94 rfl rfl (by decide) (by decide) (Nat.le_of_ble_eq_true rfl) ?_
              rw [e1, ← hIE.2.1]
              refine r_is6 (q := 99) C dX9_insert_97 rfl (by decide) ?_
              have lp1 : ∀ (n : Nat) (jx : Nat), jx < n → (hN ≤ jx ∧ jx ≤ nBr (σ (mC + 1)) eN) → oW p l ee ({ frames := 3, cells := 0, slots := 0, locals := 66 } : Room) s m args below meth c G b 8 0 0 (MQ below (o_Qc G b (oPs (fun zx σ2 => zx = (fIns (σ (mC + 1)) (σ mC 5) (eN : Int) (hN : Int) (cN : Int) u).1 ∧ oMc σ σ2 mC (fIns (σ (mC + 1)) (σ mC 5) (eN : Int) (hN : Int) (cN : Int) u).2.1 (settleL (fIns (σ (mC + 1)) (σ mC 5) (eN : Int) (hN : Int) (cN : Int) u).1 (σ mC 7) Lh (σ (mC + 1))) (fIns (σ (mC + 1)) (σ mC 5) (eN : Int) (hN : Int) (cN : Int) u).2.2) T)) args s 0 0 (fun q => b ≤ q)) T (o_row σ2 (mC + 1) (movF (σ (mC + 1)) (190 + 813 * eN + 8 * (jx + 1 + cN)) (190 + 813 * eN + 8 * (jx + 1)) (8 * (nBr (σ (mC + 1)) eN - jx)))) 99 [some (og mC), some (oi ((eN : Nat) : Int)), some (oi ((hN : Nat) : Int)), some (oi ((cN : Nat) : Int)), some (oi u), some (oi ((wN : Nat) : Int)), some (oi ((jx : Nat) : Int)), none] [] := by
                intro n
                induction n with
                | zero =>
                  intro jx hms
                  exact absurd hms (Nat.not_lt_zero _)
                | succ n ih =>
                  intro jx hms h1
                  refine r_il6 (q := 101) C dX9_insert_99 rfl ?_
                  refine r_il2 (q := 102) C dX9_insert_101 rfl ?_
                  refine r_icle (q := 122) (q2 := 105) C (by omega) (by omega) dX9_insert_102 (by decide) rfl (fun br102 => ?_) (fun br102 => ?_)
                  · have hjh : jx = hN := by omega
                    rw [hjh]
                    refine r_al0 (q := 123) C dX9_insert_122 rfl ?_
                    refine r_getR (q := 126) C f_X9_9 dX9_insert_123 rfl rfl (by assumption) (by assumption) (by omega) ?_
                    refine r_il1 (q := 127) C dX9_insert_126 rfl ?_
                    refine r_iconst (q := 128) C dX9_insert_127 rfl ?_
                    refine r_callS1 (q := 131) C (c_X9_at) m_X9_105 dX9_insert_128 rfl rfl (by decide) (by decide) (Nat.le_of_ble_eq_true rfl) ?_
                    refine r_dup2 (q := 132) C dX9_insert_131 rfl ?_
                    refine r_iald (q := 133) C ((178 + 813 * eN)) dX9_insert_132 rfl (by assumption) (by omega) (by omega) (by omega) (by decide) ?_
                    rw [o_row_at, movF_ne (by omega)]
                    refine r_il3 (q := 134) C dX9_insert_133 rfl ?_
                    refine r_iadd (q := 135) C dX9_insert_134 rfl ?_
                    refine r_iast (q := 136) C ((178 + 813 * eN)) dX9_insert_135 rfl (by assumption) (by omega) (by omega) (by omega) (by decide) ?_
                    rw [o_row_up, insG_0 (wN := wN) (bt := u) hw4 (by omega)]
                    refine r_il2 (q := 137) C dX9_insert_136 rfl ?_
                    refine r_iconst (q := 138) C dX9_insert_137 rfl ?_
                    refine r_iadd (q := 139) C dX9_insert_138 rfl ?_
                    refine r_is6 (q := 141) C dX9_insert_139 rfl (by decide) ?_
                    have lp2 : ∀ (n2 : Nat) (jx : Nat) (w7 : Option oV), cN - jx < n2 → (jx ≤ cN) → oW p l ee ({ frames := 3, cells := 0, slots := 0, locals := 66 } : Room) s m args below meth c G b 8 0 0 (MQ below (o_Qc G b (oPs (fun zx σ2 => zx = (fIns (σ (mC + 1)) (σ mC 5) (eN : Int) (hN : Int) (cN : Int) u).1 ∧ oMc σ σ2 mC (fIns (σ (mC + 1)) (σ mC 5) (eN : Int) (hN : Int) (cN : Int) u).2.1 (settleL (fIns (σ (mC + 1)) (σ mC 5) (eN : Int) (hN : Int) (cN : Int) u).1 (σ mC 7) Lh (σ (mC + 1))) (fIns (σ (mC + 1)) (σ mC 5) (eN : Int) (hN : Int) (cN : Int) u).2.2) T)) args s 0 0 (fun q => b ≤ q)) T (o_row σ2 (mC + 1) (insG (σ (mC + 1)) eN hN cN jx wN u)) 141 [some (og mC), some (oi ((eN : Nat) : Int)), some (oi ((hN : Nat) : Int)), some (oi ((cN : Nat) : Int)), some (oi u), some (oi ((wN : Nat) : Int)), some (oi (((hN + 1 + jx) : Nat) : Int)), w7] [] := by
                      intro n2
                      induction n2 with
                      | zero =>
                        intro jx w7 hms
                        exact absurd hms (Nat.not_lt_zero _)
                      | succ n2 ih2 =>
                        intro jx w7 hms j1
                        refine r_il6 (q := 143) C dX9_insert_141 rfl ?_
                        refine r_il2 (q := 144) C dX9_insert_143 rfl ?_
                        refine r_il3 (q := 145) C dX9_insert_144 rfl ?_
                        refine r_iadd (q := 146) C dX9_insert_145 rfl ?_
                        refine r_icgt (q := 234) (q2 := 149) C (by omega) (by omega) dX9_insert_146 (by decide) rfl (fun br146 => ?_) (fun br146 => ?_)
                        · refine r_al0 (q := 235) C dX9_insert_234 rfl ?_
                          refine r_il1 (q := 236) C dX9_insert_235 rfl ?_
                          refine r_callV1 (q := 239) C (c_X9_bars (eN := eN) hM (by omega)) m_X9_116 (by assumption) (by omega) dX9_insert_236 rfl rfl (by decide) (by decide) (Nat.le_of_ble_eq_true rfl) ?_
                          rw [o_row_at, show jx = cN by omega, insG_e, insA_at]
                          exact r_iret C hr dX9_insert_239 (by decide) (by decide) ⟨_, rfl, rfl, by rw [hs], by rw [hs, settle_y (by show 0 ≤ σ (mC + 1) (178 + 813 * eN) + (cN : Int) ∨ _; omega)]; exact oMc_of hσ2 (fun x hx => o_row_ne hx) o_row_at⟩
                        · refine r_iconst (q := 150) C dX9_insert_149 rfl ?_
                          refine r_is7 (q := 152) C dX9_insert_150 rfl (by decide) ?_
                          have lp3 : ∀ (n3 : Nat) (kx : Nat), 8 - kx < n3 → (kx ≤ 8) → oW p l ee ({ frames := 3, cells := 0, slots := 0, locals := 66 } : Room) s m args below meth c G b 8 0 0 (MQ below (o_Qc G b (oPs (fun zx σ2 => zx = (fIns (σ (mC + 1)) (σ mC 5) (eN : Int) (hN : Int) (cN : Int) u).1 ∧ oMc σ σ2 mC (fIns (σ (mC + 1)) (σ mC 5) (eN : Int) (hN : Int) (cN : Int) u).2.1 (settleL (fIns (σ (mC + 1)) (σ mC 5) (eN : Int) (hN : Int) (cN : Int) u).1 (σ mC 7) Lh (σ (mC + 1))) (fIns (σ (mC + 1)) (σ mC 5) (eN : Int) (hN : Int) (cN : Int) u).2.2) T)) args s 0 0 (fun q => b ≤ q)) T (o_row σ2 (mC + 1) (clrF (insG (σ (mC + 1)) eN hN cN jx wN u) (198 + 813 * eN + 8 * (hN + jx)) kx)) 152 [some (og mC), some (oi ((eN : Nat) : Int)), some (oi ((hN : Nat) : Int)), some (oi ((cN : Nat) : Int)), some (oi u), some (oi ((wN : Nat) : Int)), some (oi (((hN + 1 + jx) : Nat) : Int)), some (oi ((kx : Nat) : Int))] [] := by
                            intro n3
                            induction n3 with
                            | zero =>
                              intro kx hms
                              exact absurd hms (Nat.not_lt_zero _)
                            | succ n3 ih3 =>
                              intro kx hms k1
                              refine r_il7 (q := 154) C dX9_insert_152 rfl ?_
                              refine r_bipush (q := 156) C dX9_insert_154 (by decide) rfl ?_
                              refine r_icge (q := 180) (q2 := 159) C (by omega) (by omega) dX9_insert_156 (by decide) rfl (fun br156 => ?_) (fun br156 => ?_)
                              · have hk8 : kx = 8 := by omega
                                rw [hk8]
                                refine r_al0 (q := 181) C dX9_insert_180 rfl ?_
                                refine r_getR (q := 184) C f_X9_9 dX9_insert_181 rfl rfl (by assumption) (by assumption) (by omega) ?_
                                refine r_iconst (q := 185) C dX9_insert_184 rfl ?_
                                refine r_il5 (q := 187) C dX9_insert_185 rfl ?_
                                refine r_iadd (q := 188) C dX9_insert_187 rfl ?_
                                refine r_dup2 (q := 189) C dX9_insert_188 rfl ?_
                                refine r_iald (q := 190) C ((3 + wN)) dX9_insert_189 rfl (by assumption) (by omega) (by omega) (by omega) (by decide) ?_
                                rw [o_row_at, clrF_ne (by omega), insG_w hw4]
                                refine r_iconst (q := 191) C dX9_insert_190 rfl ?_
                                refine r_iadd (q := 192) C dX9_insert_191 rfl ?_
                                refine r_iast (q := 193) C ((3 + wN)) dX9_insert_192 rfl (by assumption) (by omega) (by omega) (by omega) (by decide) ?_
                                rw [o_row_up]
                                refine r_al0 (q := 194) C dX9_insert_193 rfl ?_
                                refine r_getR (q := 197) C f_X9_9 dX9_insert_194 rfl rfl (by assumption) (by assumption) (by omega) ?_
                                refine r_il1 (q := 198) C dX9_insert_197 rfl ?_
                                refine r_il6 (q := 200) C dX9_insert_198 rfl ?_
                                refine r_callS1 (q := 203) C (c_X9_placeOf) m_X9_132 dX9_insert_200 rfl rfl (by decide) (by decide) (Nat.le_of_ble_eq_true rfl) ?_
                                refine r_al0 (q := 204) C dX9_insert_203 rfl ?_
                                refine r_getR (q := 207) C f_X9_9 dX9_insert_204 rfl rfl (by assumption) (by assumption) (by omega) ?_
                                refine r_iconst (q := 208) C dX9_insert_207 rfl ?_
                                refine r_il5 (q := 210) C dX9_insert_208 rfl ?_
                                refine r_iadd (q := 211) C dX9_insert_210 rfl ?_
                                refine r_iald (q := 212) C ((3 + wN)) dX9_insert_211 rfl (by assumption) (by omega) (by omega) (by omega) (by decide) ?_
                                rw [o_row_at, updF_at]
                                refine r_iast (q := 213) C (198 + 813 * eN + 8 * (hN + jx)) dX9_insert_212 rfl (by assumption) (by omega) (by omega) (by omega) (by decide) ?_
                                rw [o_row_up]
                                refine r_al0 (q := 214) C dX9_insert_213 rfl ?_
                                refine r_getR (q := 217) C f_X9_9 dX9_insert_214 rfl rfl (by assumption) (by assumption) (by omega) ?_
                                refine r_il1 (q := 218) C dX9_insert_217 rfl ?_
                                refine r_il6 (q := 220) C dX9_insert_218 rfl ?_
                                refine r_callS1 (q := 223) C (c_X9_placeOf) m_X9_132 dX9_insert_220 rfl rfl (by decide) (by decide) (Nat.le_of_ble_eq_true rfl) ?_
                                refine r_iconst (q := 224) C dX9_insert_223 rfl ?_
                                refine r_iadd (q := 225) C dX9_insert_224 rfl ?_
                                refine r_il4 (q := 227) C dX9_insert_225 rfl ?_
                                refine r_iast (q := 228) C ((200 + 813 * eN + 8 * (hN + jx))) dX9_insert_227 rfl (by assumption) (by omega) (by omega) (by omega) (by decide) ?_
                                rw [o_row_up, insG_s hw4 (by omega)]
                                refine r_iinc6 (q := 231) C dX9_insert_228 rfl (by decide) ?_
                                refine r_goto (q := 141) C dX9_insert_231 (by decide) ?_
                                exact ih2 (jx + 1) _ (by omega) (by omega)
                              · refine r_al0 (q := 160) C dX9_insert_159 rfl ?_
                                refine r_getR (q := 163) C f_X9_9 dX9_insert_160 rfl rfl (by assumption) (by assumption) (by omega) ?_
                                refine r_il1 (q := 164) C dX9_insert_163 rfl ?_
                                refine r_il6 (q := 166) C dX9_insert_164 rfl ?_
                                refine r_callS1 (q := 169) C (c_X9_placeOf) m_X9_132 dX9_insert_166 rfl rfl (by decide) (by decide) (Nat.le_of_ble_eq_true rfl) ?_
                                refine r_il7 (q := 171) C dX9_insert_169 rfl ?_
                                refine r_iadd (q := 172) C dX9_insert_171 rfl ?_
                                refine r_iconst (q := 173) C dX9_insert_172 rfl ?_
                                refine r_iast (q := 174) C (198 + 813 * eN + 8 * (hN + jx) + kx) dX9_insert_173 rfl (by assumption) (by omega) (by omega) (by omega) (by decide) ?_
                                rw [o_row_up, clrF_s]
                                refine r_iinc7 (q := 177) C dX9_insert_174 rfl (by decide) ?_
                                refine r_goto (q := 152) C dX9_insert_177 (by decide) ?_
                                exact ih3 (kx + 1) (by omega) (by omega)
                          have h0 := lp3 _ 0 (Nat.lt_succ_self _) (by omega)
                          rw [clrF_0] at h0
                          exact h0
                    exact lp2 _ 0 none (Nat.lt_succ_self _) (by omega)
                  · obtain ⟨ix, rfl⟩ : ∃ ix, jx = ix + 1 := ⟨jx - 1, by omega⟩
                    refine r_al0 (q := 106) C dX9_insert_105 rfl ?_
                    refine r_il1 (q := 107) C dX9_insert_106 rfl ?_
                    refine r_il6 (q := 109) C dX9_insert_107 rfl ?_
                    refine r_il6 (q := 111) C dX9_insert_109 rfl ?_
                    refine r_il3 (q := 112) C dX9_insert_111 rfl ?_
                    refine r_iadd (q := 113) C dX9_insert_112 rfl ?_
                    refine r_callVv (q := 116) C (c_X9_movesBar (eN := eN) (fN := ix + 1) (tN := ix + 1 + cN) hM (by omega) (by omega) (by omega) (by omega)) m_X9_145 (by assumption) (by omega) dX9_insert_113 rfl rfl (by decide) (by decide) (Nat.le_of_ble_eq_true rfl) (fun σ3 hσ3 => ?_)
                    rw [o_row_at, o_row_row, show 190 + 813 * eN + 8 * (ix + 1 + 1 + cN) = 190 + 813 * eN + 8 * (ix + 1 + cN) + 8 by omega, show 190 + 813 * eN + 8 * (ix + 1 + 1) = 190 + 813 * eN + 8 * (ix + 1) + 8 by omega, movF_pre (by omega), show 8 * (nBr (σ (mC + 1)) eN - (ix + 1)) + 8 = 8 * (nBr (σ (mC + 1)) eN - ix) by omega] at hσ3
                    rw [hσ3]
                    refine r_iinc6 (q := 119) C dX9_insert_116 rfl (by decide) ?_
                    refine r_goto (q := 99) C dX9_insert_119 (by decide) ?_
                    rw [show ((ix + 1 : Nat) : Int) + (-1) = ((ix : Nat) : Int) by omega]
                    exact ih ix (by omega) (by omega)
              have h0 := lp1 _ (nBr (σ (mC + 1)) eN) (Nat.lt_succ_self _) (by omega)
              rw [Nat.sub_self, Nat.mul_zero, movF_0, show o_row σ2 (mC + 1) (σ (mC + 1)) = σ2 by rw [← e1]; exact o_row_self] at h0
              exact h0
            · refine r_al0 (q := 71) C dX9_insert_70 rfl ?_
              refine r_iconst (q := 72) C dX9_insert_71 rfl ?_
              refine r_callVs (q := 75) C (c_X9_refuses hM) m_X9_142 (by assumption) (by omega) dX9_insert_72 rfl rfl (by decide) (by decide) (Nat.le_of_ble_eq_true rfl) (fun z2 σ2 hσ2 => ?_)
              refine r_iret C hr dX9_insert_75 (by decide) (by decide) ?_
              obtain ⟨rfl, rfl⟩ := hσ2
              exact ⟨_, rfl, rfl, by rw [hs, if_pos (by omega)], by rw [hs, if_pos (by omega), settle_n (by simp)]; exact oMc_re hH⟩
          · refine r_bipush (q := 61) C dX9_insert_59 (by decide) rfl ?_
            exact r_iret C hr dX9_insert_61 (by decide) (by decide) ⟨_, rfl, rfl, by rw [hs, if_pos (by omega)], by rw [hs, if_pos (by omega)]; rw [settle_n (by simp)]; exact oMc_no hH⟩
        · refine r_ifne_f (q := 47) (q2 := 44) C (by decide) (by omega) dX9_insert_41 (by decide) rfl ?_
          refine r_bipush (q := 46) C dX9_insert_44 (by decide) rfl ?_
          exact r_iret C hr dX9_insert_46 (by decide) (by decide) ⟨_, rfl, rfl, by rw [hs, if_neg (fun hc => br38 hc.2)], by rw [hs, if_neg (fun hc => br38 hc.2)]; rw [settle_n (by simp)]; exact oMc_no hH⟩
      · refine r_ifeq_t (q := 44) C (by decide) (by omega) dX9_insert_30 (by decide) ?_
        refine r_bipush (q := 46) C dX9_insert_44 (by decide) rfl ?_
        exact r_iret C hr dX9_insert_46 (by decide) (by decide) ⟨_, rfl, rfl, by rw [hs, if_neg (fun hc => br27 hc.1)], by rw [hs, if_neg (fun hc => br27 hc.1)]; rw [settle_n (by simp)]; exact oMc_no hH⟩
    · refine r_ifne_f (q := 23) (q2 := 21) C (by decide) (by omega) dX9_insert_18 (by decide) rfl ?_
      refine r_iconst (q := 22) C dX9_insert_21 rfl ?_
      exact r_iret C hr dX9_insert_22 (by decide) (by decide) ⟨_, rfl, rfl, by rw [fIns, if_neg (fun hc => br15 ⟨hc.2.1, by have h := hc.2.2; rw [Int.toNat_natCast, ← hIE.2.1] at h; exact h⟩)], by rw [fIns, if_neg (fun hc => br15 ⟨hc.2.1, by have h := hc.2.2; rw [Int.toNat_natCast, ← hIE.2.1] at h; exact h⟩)]; rw [settle_n (by simp)]; exact oMc_no hH⟩
  · refine r_ifeq_t (q := 21) C (by decide) (by omega) dX9_insert_5 (by decide) ?_
    refine r_iconst (q := 22) C dX9_insert_21 rfl ?_
    exact r_iret C hr dX9_insert_22 (by decide) (by decide) ⟨_, rfl, rfl, by rw [fIns, if_neg (fun hc => br2 hc.1)], by rw [fIns, if_neg (fun hc => br2 hc.1)]; rw [settle_n (by simp)]; exact oMc_no hH⟩
