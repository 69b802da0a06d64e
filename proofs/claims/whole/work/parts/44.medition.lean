theorem o_up_row {σ : oM} {a k : Nat} {g : Nat → Int} {v : Int} (h : σ a = g) : o_row σ a (updF g k v) = o_up σ a k v := by
  funext x
  by_cases hc : x = a
  · rw [hc, o_row_at, o_upF, h]
  · rw [o_row_ne hc, o_up_ne hc]
/-- an edition being set: jN of its bars numbered -/
def edG (A : Nat → Int) (eN wN Bn jN : Nat) (bt : Int) : Nat → Int := fun x =>
  if x = 0 then A 0 + 1 else if 177 + 813 * eN ≤ x ∧ x < 990 + 813 * eN then
    (if x = 177 + 813 * eN then (wN : Int) else if x = 178 + 813 * eN then (Bn : Int) else if x = 179 + 813 * eN then -7
     else if 198 + 813 * eN ≤ x ∧ x < 198 + 813 * eN + 8 * jN then newB ((x - (198 + 813 * eN)) % 8) ((((x - (198 + 813 * eN)) / 8 : Nat) : Int) + 1) bt else 0)
  else A x
theorem edG_0 {A : Nat → Int} {eN wN Bn : Nat} {bt : Int} : updF (updF (updF (clrF (updF A 0 (A 0 + 1)) (177 + 813 * eN) 813) (177 + 813 * eN) (wN : Int)) (178 + 813 * eN) (Bn : Int)) (179 + 813 * eN) (-7) = edG A eN wN Bn 0 bt := by
  funext x
  unfold edG clrF
  by_cases h0 : x = 0
  · rw [if_pos h0, updF_ne (by omega), updF_ne (by omega), updF_ne (by omega), if_neg (by omega), h0, updF_at]
  · rw [if_neg h0]
    by_cases h1 : 177 + 813 * eN ≤ x ∧ x < 990 + 813 * eN
    · rw [if_pos h1]
      by_cases h2 : x = 177 + 813 * eN
      · rw [if_pos h2, updF_ne (by omega), updF_ne (by omega), h2, updF_at]
      · rw [if_neg h2]
        by_cases h3 : x = 178 + 813 * eN
        · rw [if_pos h3, updF_ne (by omega), h3, updF_at]
        · rw [if_neg h3]
          by_cases h4 : x = 179 + 813 * eN
          · rw [if_pos h4, h4, updF_at]
          · rw [if_neg h4, updF_ne h4, updF_ne h3, updF_ne h2, if_pos (by omega), if_neg (by omega)]
    · rw [if_neg h1, updF_ne (by omega), updF_ne (by omega), updF_ne (by omega), if_neg (by omega), updF_ne h0]
theorem edG_s {A : Nat → Int} {eN wN Bn jN : Nat} {bt : Int} (hj : jN < 99) : updF (updF (edG A eN wN Bn jN bt) (198 + 813 * eN + 8 * jN) ((jN : Int) + 1)) (200 + 813 * eN + 8 * jN) bt = edG A eN wN Bn (jN + 1) bt := by
  funext x
  by_cases hx : 198 + 813 * eN + 8 * jN ≤ x ∧ x < 198 + 813 * eN + 8 * jN + 8
  · obtain ⟨kx, rfl⟩ : ∃ kx, x = 198 + 813 * eN + 8 * jN + kx := ⟨x - (198 + 813 * eN + 8 * jN), by omega⟩
    have er : edG A eN wN Bn (jN + 1) bt (198 + 813 * eN + 8 * jN + kx) = newB kx ((jN : Int) + 1) bt := by
      unfold edG
      rw [if_neg (by omega), if_pos (by omega), if_neg (by omega), if_neg (by omega), if_neg (by omega), if_pos (by omega), show (198 + 813 * eN + 8 * jN + kx - (198 + 813 * eN)) % 8 = kx by omega, show (198 + 813 * eN + 8 * jN + kx - (198 + 813 * eN)) / 8 = jN by omega]
    rw [er]
    unfold newB
    by_cases k0x : kx = 0
    · subst k0x
      rw [if_pos rfl, Nat.add_zero, updF_ne (by omega), updF_at]
    · rw [if_neg k0x]
      by_cases k2x : kx = 2
      · subst k2x
        rw [if_pos rfl, show 198 + 813 * eN + 8 * jN + 2 = 200 + 813 * eN + 8 * jN by omega, updF_at]
      · rw [if_neg k2x, updF_ne (by omega), updF_ne (by omega)]
        unfold edG
        rw [if_neg (by omega), if_pos (by omega), if_neg (by omega), if_neg (by omega), if_neg (by omega), if_neg (by omega)]
  · rw [updF_ne (by omega), updF_ne (by omega)]
    unfold edG
    by_cases h4 : 198 + 813 * eN ≤ x ∧ x < 198 + 813 * eN + 8 * jN
    · rw [if_pos h4, if_pos (show 198 + 813 * eN ≤ x ∧ x < 198 + 813 * eN + 8 * (jN + 1) by omega)]
    · rw [if_neg h4, if_neg (show ¬ (198 + 813 * eN ≤ x ∧ x < 198 + 813 * eN + 8 * (jN + 1)) by omega)]
theorem edG_e {A : Nat → Int} {eN wN Bn : Nat} {bt : Int} (hw : wN < 4) : updF (edG A eN wN Bn Bn bt) (3 + wN) (Bn : Int) = edA A eN wN Bn bt := by
  funext x
  unfold edA
  by_cases h2 : x = 3 + wN
  · rw [h2, updF_at, if_neg (by omega), if_pos rfl]
  · rw [updF_ne h2, if_neg h2]
    rfl
/-- a derived edition being set: kx of its numbers copied -/
def drvG (A : Nat → Int) (eN kN kx : Nat) : Nat → Int := fun x =>
  if x = 0 then A 0 + 1 else if 177 + 813 * eN ≤ x ∧ x < 177 + 813 * eN + kx then
    (if 180 + 813 * eN ≤ x ∧ x < 198 + 813 * eN then 0 else A (x - 813 * eN + 813 * kN))
  else A x
theorem drvG_0 {A : Nat → Int} {eN kN : Nat} : updF A 0 (A 0 + 1) = drvG A eN kN 0 := by
  funext x
  unfold drvG updF
  by_cases h0 : x = 0
  · rw [if_pos h0, if_pos h0]
  · rw [if_neg h0, if_neg h0, if_neg (by omega)]
theorem drvG_s0 {A : Nat → Int} {eN kN kx : Nat} (hk : 3 ≤ kx ∧ kx < 21) : updF (drvG A eN kN kx) (177 + 813 * eN + kx) 0 = drvG A eN kN (kx + 1) := by
  funext x
  by_cases hx : x = 177 + 813 * eN + kx
  · subst hx
    rw [updF_at]
    unfold drvG
    rw [if_neg (by omega), if_pos (by omega), if_pos (by omega)]
  · rw [updF_ne hx]
    unfold drvG
    by_cases h4 : 177 + 813 * eN ≤ x ∧ x < 177 + 813 * eN + kx
    · rw [if_pos h4, if_pos (show 177 + 813 * eN ≤ x ∧ x < 177 + 813 * eN + (kx + 1) by omega)]
    · rw [if_neg h4, if_neg (show ¬ (177 + 813 * eN ≤ x ∧ x < 177 + 813 * eN + (kx + 1)) by omega)]
theorem drvG_s1 {A : Nat → Int} {eN kN kx : Nat} (hk : ¬ (3 ≤ kx ∧ kx < 21)) : updF (drvG A eN kN kx) (177 + 813 * eN + kx) (A (177 + 813 * kN + kx)) = drvG A eN kN (kx + 1) := by
  funext x
  by_cases hx : x = 177 + 813 * eN + kx
  · subst hx
    rw [updF_at]
    unfold drvG
    rw [if_neg (by omega), if_pos (by omega), if_neg (by omega), show 177 + 813 * eN + kx - 813 * eN + 813 * kN = 177 + 813 * kN + kx by omega]
  · rw [updF_ne hx]
    unfold drvG
    by_cases h4 : 177 + 813 * eN ≤ x ∧ x < 177 + 813 * eN + kx
    · rw [if_pos h4, if_pos (show 177 + 813 * eN ≤ x ∧ x < 177 + 813 * eN + (kx + 1) by omega)]
    · rw [if_neg h4, if_neg (show ¬ (177 + 813 * eN ≤ x ∧ x < 177 + 813 * eN + (kx + 1)) by omega)]
theorem drvG_ne {A : Nat → Int} {eN kN kx x : Nat} (h0 : x ≠ 0) (h : x < 177 + 813 * eN) : drvG A eN kN kx x = A x := by
  unfold drvG
  rw [if_neg h0, if_neg (by omega)]
theorem drvG_e {A : Nat → Int} {eN kN : Nat} : updF (drvG A eN kN 813) (179 + 813 * eN) (kN : Int) = drvA A eN kN := by
  funext x
  unfold drvA
  by_cases h2 : x = 179 + 813 * eN
  · rw [h2, updF_at, if_neg (by omega), if_pos (by omega), if_pos rfl]
  · rw [updF_ne h2, if_neg h2]
    unfold drvG
    rw [show 177 + 813 * eN + 813 = 990 + 813 * eN by omega]
set_option maxRecDepth 20000 in
set_option maxHeartbeats 8000000 in
theorem c_X9_edition {T : oT} {σ : oM} {mC : Nat} (hM : oMm T mC) {Bd : Int} (hI : oI Bd (σ (mC + 1))) {Lh : List (Nat → Int)} (hH : oMH σ mC Lh) (h7 : σ mC 7 = 0) {z v w : Int} (hz : o_r z) (hv : o_r v) (hw : o_r w) : MS yX9_edition cX9_edition 6 (some FieldType.int) 3 0 0 66 [og mC, oi z, oi v, oi w] T σ (oPs (fun zx σ2 => zx = (fEdition (σ (mC + 1)) Lh z v w).1 ∧ oMc σ σ2 mC (fEdition (σ (mC + 1)) Lh z v w).2.1 (fEdition (σ (mC + 1)) Lh z v w).2.2 (σ mC 5)) T) := by
  have hMc := hM
  obtain ⟨hM0, hMr0, hMr1, hMr2, hMr3, hMr8, hMr9, hMr10, hMr11, hMr13, hMr14, hMr15, hMr16, hMr17, hMr18, hMr19, hMr20, hMk1, hMk2, hMk3, hMk4, hMk5, hMk6, hMk7, hMk8, hMk9, hMk10, hMk11, hMk12, hMk13, hMk14, hMk15, hMk16, hMT⟩ := hMc
  have hI0 := hI.2.1
  have hI1 := hI.2.2.1
  have hI2 := hI.2.2.2.1
  have hIn := oI_n hI
  have hIB := hI.1
  refine o_met (by decide +kernel) (Nat.le_of_ble_eq_true rfl) (fun p l ee s m args below meth c G b C hr hn => ?_)
  have C : oCx p s m args meth c G b RX9 cX9_edition 6 := C
  show oW p l ee ({ frames := 3, cells := 0, slots := 0, locals := 66 } : Room) s m args below meth c G b 6 0 0 (MQ below (o_Qc G b (oPs (fun zx σ2 => zx = (fEdition (σ (mC + 1)) Lh z v w).1 ∧ oMc σ σ2 mC (fEdition (σ (mC + 1)) Lh z v w).2.1 (fEdition (σ (mC + 1)) Lh z v w).2.2 (σ mC 5)) T)) args s 0 0 (fun q => b ≤ q)) T σ 0 [some (og mC), some (oi z), some (oi v), some (oi w), none, none] []
  refine r_il1 (q := 1) C dX9_edition_0 rfl ?_
  refine r_iconst (q := 2) C dX9_edition_1 rfl ?_
  refine r_iconst (q := 3) C dX9_edition_2 rfl ?_
  refine r_callSb (q := 6) C (c_X9_in (by omega) (by omega) (by omega)) m_X9_108 dX9_edition_3 rfl rfl (by decide) (by decide) (Nat.le_of_ble_eq_true rfl) (fun br3 => ?_) (fun br3 => ?_)
  · refine r_ifne_t (q := 11) C (by decide) (by omega) dX9_edition_6 (by decide) ?_
    refine r_il2 (q := 12) C dX9_edition_11 rfl ?_
    refine r_iconst (q := 13) C dX9_edition_12 rfl ?_
    refine r_bipush (q := 15) C dX9_edition_13 (by decide) rfl ?_
    refine r_callSb (q := 18) C (c_X9_in hv (by omega) (by omega)) m_X9_108 dX9_edition_15 rfl rfl (by decide) (by decide) (Nat.le_of_ble_eq_true rfl) (fun br15 => ?_) (fun br15 => ?_)
    · refine r_ifeq_f (q := 31) (q2 := 21) C (by decide) (by omega) dX9_edition_18 (by decide) rfl ?_
      refine r_il3 (q := 22) C dX9_edition_21 rfl ?_
      refine r_iconst (q := 23) C dX9_edition_22 rfl ?_
      refine r_bipush (q := 25) C dX9_edition_23 (by decide) rfl ?_
      refine r_callSb (q := 28) C (c_X9_in hw (by omega) (by omega)) m_X9_108 dX9_edition_25 rfl rfl (by decide) (by decide) (Nat.le_of_ble_eq_true rfl) (fun br25 => ?_) (fun br25 => ?_)
      · refine r_ifne_t (q := 34) C (by decide) (by omega) dX9_edition_28 (by decide) ?_
        obtain ⟨wN, rfl⟩ : ∃ wN : Nat, z = (wN : Int) := ⟨z.toNat, by omega⟩
        obtain ⟨Bn, rfl⟩ : ∃ Bn : Nat, v = (Bn : Int) := ⟨v.toNat, by omega⟩
        have hs := fEdition.eq_1 (σ (mC + 1)) Lh (wN : Int) (Bn : Int) w
        rw [if_pos br3, if_pos ⟨br15, br25⟩] at hs
        have hw4 : wN < 4 := by omega
        refine r_iconst (q := 35) C dX9_edition_34 rfl ?_
        refine r_is4 (q := 37) C dX9_edition_35 rfl (by decide) ?_
        have lp1 : ∀ (n : Nat) (jx : Nat), nEd (σ (mC + 1)) - jx < n → (jx ≤ (nEd (σ (mC + 1)))) → (∀ ex, ex < jx → (σ (mC + 1)) (177 + 813 * ex) ≠ (wN : Int)) → oW p l ee ({ frames := 3, cells := 0, slots := 0, locals := 66 } : Room) s m args below meth c G b 6 0 0 (MQ below (o_Qc G b (oPs (fun zx σ2 => zx = (fEdition (σ (mC + 1)) Lh (wN : Int) (Bn : Int) w).1 ∧ oMc σ σ2 mC (fEdition (σ (mC + 1)) Lh (wN : Int) (Bn : Int) w).2.1 (fEdition (σ (mC + 1)) Lh (wN : Int) (Bn : Int) w).2.2 (σ mC 5)) T)) args s 0 0 (fun q => b ≤ q)) T σ 37 [some (og mC), some (oi ((wN : Nat) : Int)), some (oi ((Bn : Nat) : Int)), some (oi w), some (oi ((jx : Nat) : Int)), none] [] := by
          intro n
          induction n with
          | zero =>
            intro jx hms
            exact absurd hms (Nat.not_lt_zero _)
          | succ n ih =>
            intro jx hms h1 h2
            refine r_il4 (q := 39) C dX9_edition_37 rfl ?_
            refine r_al0 (q := 40) C dX9_edition_39 rfl ?_
            refine r_getR (q := 43) C f_X9_9 dX9_edition_40 rfl rfl (by assumption) (by assumption) (by omega) ?_
            refine r_iconst (q := 44) C dX9_edition_43 rfl ?_
            refine r_iald (q := 45) C (0) dX9_edition_44 rfl (by assumption) (by omega) (by omega) (by omega) (by decide) ?_
            rw [← hIn.1]
            refine r_icge (q := 72) (q2 := 48) C (by omega) (by omega) dX9_edition_45 (by decide) rfl (fun br45 => ?_) (fun br45 => ?_)
            · have hno : ¬ ∃ ex, ex < nEd (σ (mC + 1)) ∧ σ (mC + 1) (177 + 813 * ex) = (wN : Int) := fun hc => by obtain ⟨ex, q1, q2⟩ := hc; exact h2 ex (by omega) q2
              rw [if_neg hno] at hs
              refine r_al0 (q := 73) C dX9_edition_72 rfl ?_
              refine r_getR (q := 76) C f_X9_9 dX9_edition_73 rfl rfl (by assumption) (by assumption) (by omega) ?_
              refine r_iconst (q := 77) C dX9_edition_76 rfl ?_
              refine r_iald (q := 78) C (0) dX9_edition_77 rfl (by assumption) (by omega) (by omega) (by omega) (by decide) ?_
              refine r_bipush (q := 80) C dX9_edition_78 (by decide) rfl ?_
              refine r_icne (q := 86) (q2 := 83) C (by omega) (by omega) dX9_edition_80 (by decide) rfl (fun br80 => ?_) (fun br80 => ?_)
              · rw [if_neg (by omega)] at hs
                refine r_al0 (q := 87) C dX9_edition_86 rfl ?_
                refine r_callVv (q := 90) C (c_X9_keeps hM hH (Or.inl h7)) m_X9_129 (by assumption) (by omega) dX9_edition_87 rfl rfl (by decide) (by decide) (Nat.le_of_ble_eq_true rfl) (fun σ2 hσ2 => ?_)
                rw [kept_0 h7] at hσ2
                have e1 := hσ2.2.1 (mC + 1) (by omega) (by omega)
                refine r_al0 (q := 91) C dX9_edition_90 rfl ?_
                refine r_getR (q := 94) C f_X9_9 dX9_edition_91 rfl rfl (by assumption) (by assumption) (by omega) ?_
                refine r_iconst (q := 95) C dX9_edition_94 rfl ?_
                refine r_iald (q := 96) C (0) dX9_edition_95 rfl (by assumption) (by omega) (by omega) (by omega) (by decide) ?_
                rw [e1, ← hIn.1]
                obtain ⟨eN, heN⟩ : ∃ eN, eN = nEd (σ (mC + 1)) := ⟨_, rfl⟩
                rw [← heN]
                refine r_is4 (q := 98) C dX9_edition_96 rfl (by decide) ?_
                refine r_al0 (q := 99) C dX9_edition_98 rfl ?_
                refine r_getR (q := 102) C f_X9_9 dX9_edition_99 rfl rfl (by assumption) (by assumption) (by omega) ?_
                refine r_iconst (q := 103) C dX9_edition_102 rfl ?_
                refine r_dup2 (q := 104) C dX9_edition_103 rfl ?_
                refine r_iald (q := 105) C (0) dX9_edition_104 rfl (by assumption) (by omega) (by omega) (by omega) (by decide) ?_
                rw [e1]
                refine r_iconst (q := 106) C dX9_edition_105 rfl ?_
                refine r_iadd (q := 107) C dX9_edition_106 rfl ?_
                refine r_iast (q := 108) C (0) dX9_edition_107 rfl (by assumption) (by omega) (by omega) (by omega) (by decide) ?_
                refine r_iconst (q := 109) C dX9_edition_108 rfl ?_
                refine r_is5 (q := 111) C dX9_edition_109 rfl (by decide) ?_
                have lp2 : ∀ (n2 : Nat) (kx : Nat), 813 - kx < n2 → (kx ≤ 813) → oW p l ee ({ frames := 3, cells := 0, slots := 0, locals := 66 } : Room) s m args below meth c G b 6 0 0 (MQ below (o_Qc G b (oPs (fun zx σ2 => zx = (fEdition (σ (mC + 1)) Lh (wN : Int) (Bn : Int) w).1 ∧ oMc σ σ2 mC (fEdition (σ (mC + 1)) Lh (wN : Int) (Bn : Int) w).2.1 (fEdition (σ (mC + 1)) Lh (wN : Int) (Bn : Int) w).2.2 (σ mC 5)) T)) args s 0 0 (fun q => b ≤ q)) T (o_row σ2 (mC + 1) (clrF (updF (σ (mC + 1)) 0 (σ (mC + 1) 0 + 1)) (177 + 813 * eN) kx)) 111 [some (og mC), some (oi ((wN : Nat) : Int)), some (oi ((Bn : Nat) : Int)), some (oi w), some (oi ((eN : Nat) : Int)), some (oi ((kx : Nat) : Int))] [] := by
                  intro n2
                  induction n2 with
                  | zero =>
                    intro kx hms
                    exact absurd hms (Nat.not_lt_zero _)
                  | succ n2 ih2 =>
                    intro kx hms k1
                    refine r_il5 (q := 113) C dX9_edition_111 rfl ?_
                    refine r_sipush (q := 116) C dX9_edition_113 (by decide) rfl ?_
                    refine r_icge (q := 138) (q2 := 119) C (by omega) (by omega) dX9_edition_116 (by decide) rfl (fun br116 => ?_) (fun br116 => ?_)
                    · rw [show kx = 813 by omega]
                      refine r_al0 (q := 139) C dX9_edition_138 rfl ?_
                      refine r_getR (q := 142) C f_X9_9 dX9_edition_139 rfl rfl (by assumption) (by assumption) (by omega) ?_
                      refine r_il4 (q := 144) C dX9_edition_142 rfl ?_
                      refine r_iconst (q := 145) C dX9_edition_144 rfl ?_
                      refine r_callS1 (q := 148) C (c_X9_at) m_X9_105 dX9_edition_145 rfl rfl (by decide) (by decide) (Nat.le_of_ble_eq_true rfl) ?_
                      refine r_il1 (q := 149) C dX9_edition_148 rfl ?_
                      refine r_iast (q := 150) C ((177 + 813 * eN)) dX9_edition_149 rfl (by assumption) (by omega) (by omega) (by omega) (by decide) ?_
                      rw [o_row_up]
                      refine r_al0 (q := 151) C dX9_edition_150 rfl ?_
                      refine r_getR (q := 154) C f_X9_9 dX9_edition_151 rfl rfl (by assumption) (by assumption) (by omega) ?_
                      refine r_il4 (q := 156) C dX9_edition_154 rfl ?_
                      refine r_iconst (q := 157) C dX9_edition_156 rfl ?_
                      refine r_callS1 (q := 160) C (c_X9_at) m_X9_105 dX9_edition_157 rfl rfl (by decide) (by decide) (Nat.le_of_ble_eq_true rfl) ?_
                      refine r_il2 (q := 161) C dX9_edition_160 rfl ?_
                      refine r_iast (q := 162) C ((178 + 813 * eN)) dX9_edition_161 rfl (by assumption) (by omega) (by omega) (by omega) (by decide) ?_
                      rw [o_row_up]
                      refine r_al0 (q := 163) C dX9_edition_162 rfl ?_
                      refine r_getR (q := 166) C f_X9_9 dX9_edition_163 rfl rfl (by assumption) (by assumption) (by omega) ?_
                      refine r_il4 (q := 168) C dX9_edition_166 rfl ?_
                      refine r_iconst (q := 169) C dX9_edition_168 rfl ?_
                      refine r_callS1 (q := 172) C (c_X9_at) m_X9_105 dX9_edition_169 rfl rfl (by decide) (by decide) (Nat.le_of_ble_eq_true rfl) ?_
                      refine r_bipush (q := 174) C dX9_edition_172 (by decide) rfl ?_
                      refine r_iast (q := 175) C ((179 + 813 * eN)) dX9_edition_174 rfl (by assumption) (by omega) (by omega) (by omega) (by decide) ?_
                      rw [o_row_up, edG_0 (bt := w)]
                      refine r_iconst (q := 176) C dX9_edition_175 rfl ?_
                      refine r_is5 (q := 178) C dX9_edition_176 rfl (by decide) ?_
                      have lp3 : ∀ (n3 : Nat) (jx : Nat), Bn - jx < n3 → (jx ≤ Bn) → oW p l ee ({ frames := 3, cells := 0, slots := 0, locals := 66 } : Room) s m args below meth c G b 6 0 0 (MQ below (o_Qc G b (oPs (fun zx σ2 => zx = (fEdition (σ (mC + 1)) Lh (wN : Int) (Bn : Int) w).1 ∧ oMc σ σ2 mC (fEdition (σ (mC + 1)) Lh (wN : Int) (Bn : Int) w).2.1 (fEdition (σ (mC + 1)) Lh (wN : Int) (Bn : Int) w).2.2 (σ mC 5)) T)) args s 0 0 (fun q => b ≤ q)) T (o_row σ2 (mC + 1) (edG (σ (mC + 1)) eN wN Bn jx w)) 178 [some (og mC), some (oi ((wN : Nat) : Int)), some (oi ((Bn : Nat) : Int)), some (oi w), some (oi ((eN : Nat) : Int)), some (oi (((jx + 1) : Nat) : Int))] [] := by
                        intro n3
                        induction n3 with
                        | zero =>
                          intro jx hms
                          exact absurd hms (Nat.not_lt_zero _)
                        | succ n3 ih3 =>
                          intro jx hms j1
                          refine r_il5 (q := 180) C dX9_edition_178 rfl ?_
                          refine r_il2 (q := 181) C dX9_edition_180 rfl ?_
                          refine r_icgt (q := 219) (q2 := 184) C (by omega) (by omega) dX9_edition_181 (by decide) rfl (fun br181 => ?_) (fun br181 => ?_)
                          · refine r_al0 (q := 220) C dX9_edition_219 rfl ?_
                            refine r_getR (q := 223) C f_X9_9 dX9_edition_220 rfl rfl (by assumption) (by assumption) (by omega) ?_
                            refine r_iconst (q := 224) C dX9_edition_223 rfl ?_
                            refine r_il1 (q := 225) C dX9_edition_224 rfl ?_
                            refine r_iadd (q := 226) C dX9_edition_225 rfl ?_
                            refine r_il2 (q := 227) C dX9_edition_226 rfl ?_
                            refine r_iast (q := 228) C ((3 + wN)) dX9_edition_227 rfl (by assumption) (by omega) (by omega) (by omega) (by decide) ?_
                            rw [o_row_up, show jx = Bn by omega, edG_e hw4]
                            refine r_il4 (q := 230) C dX9_edition_228 rfl ?_
                            exact r_iret C hr dX9_edition_230 (by decide) (by decide) ⟨_, rfl, rfl, by rw [hs]; show (eN : Int) = _; omega, by rw [hs]; exact oMc_of hσ2 (fun x hx => o_row_ne hx) (by rw [o_row_at, Int.toNat_natCast, Int.toNat_natCast, heN])⟩
                          · refine r_al0 (q := 185) C dX9_edition_184 rfl ?_
                            refine r_getR (q := 188) C f_X9_9 dX9_edition_185 rfl rfl (by assumption) (by assumption) (by omega) ?_
                            refine r_il4 (q := 190) C dX9_edition_188 rfl ?_
                            refine r_il5 (q := 192) C dX9_edition_190 rfl ?_
                            refine r_callS1 (q := 195) C (c_X9_placeOf) m_X9_132 dX9_edition_192 rfl rfl (by decide) (by decide) (Nat.le_of_ble_eq_true rfl) ?_
                            refine r_il5 (q := 197) C dX9_edition_195 rfl ?_
                            refine r_iast (q := 198) C ((198 + 813 * eN + 8 * jx)) dX9_edition_197 rfl (by assumption) (by omega) (by omega) (by omega) (by decide) ?_
                            rw [o_row_up]
                            refine r_al0 (q := 199) C dX9_edition_198 rfl ?_
                            refine r_getR (q := 202) C f_X9_9 dX9_edition_199 rfl rfl (by assumption) (by assumption) (by omega) ?_
                            refine r_il4 (q := 204) C dX9_edition_202 rfl ?_
                            refine r_il5 (q := 206) C dX9_edition_204 rfl ?_
                            refine r_callS1 (q := 209) C (c_X9_placeOf) m_X9_132 dX9_edition_206 rfl rfl (by decide) (by decide) (Nat.le_of_ble_eq_true rfl) ?_
                            refine r_iconst (q := 210) C dX9_edition_209 rfl ?_
                            refine r_iadd (q := 211) C dX9_edition_210 rfl ?_
                            refine r_il3 (q := 212) C dX9_edition_211 rfl ?_
                            refine r_iast (q := 213) C ((200 + 813 * eN + 8 * jx)) dX9_edition_212 rfl (by assumption) (by omega) (by omega) (by omega) (by decide) ?_
                            rw [o_row_up]
                            refine r_iinc5 (q := 216) C dX9_edition_213 rfl (by decide) ?_
                            refine r_goto (q := 178) C dX9_edition_216 (by decide) ?_
                            have es := edG_s (A := σ (mC + 1)) (eN := eN) (wN := wN) (Bn := Bn) (jN := jx) (bt := w) (by omega)
                            rw [show ((jx : Int) + 1) = ((jx + 1 : Nat) : Int) from rfl] at es
                            rw [es]
                            exact ih3 (jx + 1) (by omega) (by omega)
                      exact lp3 _ 0 (Nat.lt_succ_self _) (by omega)
                    · refine r_al0 (q := 120) C dX9_edition_119 rfl ?_
                      refine r_getR (q := 123) C f_X9_9 dX9_edition_120 rfl rfl (by assumption) (by assumption) (by omega) ?_
                      refine r_il4 (q := 125) C dX9_edition_123 rfl ?_
                      refine r_il5 (q := 127) C dX9_edition_125 rfl ?_
                      refine r_callS1 (q := 130) C (c_X9_at) m_X9_105 dX9_edition_127 rfl rfl (by decide) (by decide) (Nat.le_of_ble_eq_true rfl) ?_
                      refine r_iconst (q := 131) C dX9_edition_130 rfl ?_
                      refine r_iast (q := 132) C ((177 + 813 * eN + kx)) dX9_edition_131 rfl (by assumption) (by omega) (by omega) (by omega) (by decide) ?_
                      rw [o_row_up, clrF_s]
                      refine r_iinc5 (q := 135) C dX9_edition_132 rfl (by decide) ?_
                      refine r_goto (q := 111) C dX9_edition_135 (by decide) ?_
                      exact ih2 (kx + 1) (by omega) (by omega)
                have h0 := lp2 _ 0 (Nat.lt_succ_self _) (by omega)
                rw [clrF_0, show o_row σ2 (mC + 1) (updF (σ (mC + 1)) 0 (σ (mC + 1) 0 + 1)) = o_up σ2 (mC + 1) 0 (σ (mC + 1) 0 + 1) from o_up_row e1] at h0
                exact h0
              · refine r_bipush (q := 85) C dX9_edition_83 (by decide) rfl ?_
                exact r_iret C hr dX9_edition_85 (by decide) (by decide) ⟨_, rfl, rfl, by rw [hs, if_pos (by omega)], by rw [hs, if_pos (by omega)]; exact oMc_no hH⟩
            · refine r_al0 (q := 49) C dX9_edition_48 rfl ?_
              refine r_getR (q := 52) C f_X9_9 dX9_edition_49 rfl rfl (by assumption) (by assumption) (by omega) ?_
              refine r_il4 (q := 54) C dX9_edition_52 rfl ?_
              refine r_iconst (q := 55) C dX9_edition_54 rfl ?_
              refine r_callS1 (q := 58) C (c_X9_at) m_X9_105 dX9_edition_55 rfl rfl (by decide) (by decide) (Nat.le_of_ble_eq_true rfl) ?_
              have hwk := (oI_b hI (ex := jx) (by omega)).1.1
              refine r_iald (q := 59) C ((177 + 813 * jx)) dX9_edition_58 rfl (by assumption) (by omega) (by omega) (by omega) (by decide) ?_
              refine r_il1 (q := 60) C dX9_edition_59 rfl ?_
              refine r_icne (q := 66) (q2 := 63) C (by omega) (by omega) dX9_edition_60 (by decide) rfl (fun br60 => ?_) (fun br60 => ?_)
              · refine r_iinc4 (q := 69) C dX9_edition_66 rfl (by decide) ?_
                refine r_goto (q := 37) C dX9_edition_69 (by decide) ?_
                exact ih (jx + 1) (by omega) (by omega) (fun ex hx => (Nat.lt_or_ge ex jx).elim (fun q => h2 ex q) (fun q => by rw [show ex = jx by omega]; exact br60))
              · refine r_bipush (q := 65) C dX9_edition_63 (by decide) rfl ?_
                exact r_iret C hr dX9_edition_65 (by decide) (by decide) ⟨_, rfl, rfl, by rw [hs, if_pos ⟨jx, by omega, br60⟩], by rw [hs, if_pos ⟨jx, by omega, br60⟩]; exact oMc_no hH⟩
        exact lp1 _ 0 (Nat.lt_succ_self _) (by omega) (fun ex hx => absurd hx (Nat.not_lt_zero _))
      · refine r_ifne_f (q := 34) (q2 := 31) C (by decide) (by omega) dX9_edition_28 (by decide) rfl ?_
        refine r_bipush (q := 33) C dX9_edition_31 (by decide) rfl ?_
        exact r_iret C hr dX9_edition_33 (by decide) (by decide) ⟨_, rfl, rfl, by rw [fEdition, if_pos br3, if_neg (fun hc => br25 hc.2)], by rw [fEdition, if_pos br3, if_neg (fun hc => br25 hc.2)]; exact oMc_no hH⟩
    · refine r_ifeq_t (q := 31) C (by decide) (by omega) dX9_edition_18 (by decide) ?_
      refine r_bipush (q := 33) C dX9_edition_31 (by decide) rfl ?_
      exact r_iret C hr dX9_edition_33 (by decide) (by decide) ⟨_, rfl, rfl, by rw [fEdition, if_pos br3, if_neg (fun hc => br15 hc.1)], by rw [fEdition, if_pos br3, if_neg (fun hc => br15 hc.1)]; exact oMc_no hH⟩
  · refine r_ifne_f (q := 11) (q2 := 9) C (by decide) (by omega) dX9_edition_6 (by decide) rfl ?_
    refine r_iconst (q := 10) C dX9_edition_9 rfl ?_
    exact r_iret C hr dX9_edition_10 (by decide) (by decide) ⟨_, rfl, rfl, by rw [fEdition, if_neg br3], by rw [fEdition, if_neg br3]; exact oMc_no hH⟩
set_option maxRecDepth 20000 in
set_option maxHeartbeats 8000000 in
theorem c_X9_derive {T : oT} {σ : oM} {mC : Nat} (hM : oMm T mC) {Bd : Int} (hI : oI Bd (σ (mC + 1))) {Lh : List (Nat → Int)} (hH : oMH σ mC Lh) (h7 : σ mC 7 = 0) {z : Int} (hz : o_r z) : MS yX9_derive cX9_derive 4 (some FieldType.int) 3 0 0 66 [og mC, oi z] T σ (oPs (fun zx σ2 => zx = (fDerive (σ (mC + 1)) Lh z).1 ∧ oMc σ σ2 mC (fDerive (σ (mC + 1)) Lh z).2.1 (fDerive (σ (mC + 1)) Lh z).2.2 (σ mC 5)) T) := by
  have hMc := hM
  obtain ⟨hM0, hMr0, hMr1, hMr2, hMr3, hMr8, hMr9, hMr10, hMr11, hMr13, hMr14, hMr15, hMr16, hMr17, hMr18, hMr19, hMr20, hMk1, hMk2, hMk3, hMk4, hMk5, hMk6, hMk7, hMk8, hMk9, hMk10, hMk11, hMk12, hMk13, hMk14, hMk15, hMk16, hMT⟩ := hMc
  have hI0 := hI.2.1
  have hI1 := hI.2.2.1
  have hI2 := hI.2.2.2.1
  have hIn := oI_n hI
  have hIB := hI.1
  refine o_met (by decide +kernel) (Nat.le_of_ble_eq_true rfl) (fun p l ee s m args below meth c G b C hr hn => ?_)
  have C : oCx p s m args meth c G b RX9 cX9_derive 4 := C
  show oW p l ee ({ frames := 3, cells := 0, slots := 0, locals := 66 } : Room) s m args below meth c G b 4 0 0 (MQ below (o_Qc G b (oPs (fun zx σ2 => zx = (fDerive (σ (mC + 1)) Lh z).1 ∧ oMc σ σ2 mC (fDerive (σ (mC + 1)) Lh z).2.1 (fDerive (σ (mC + 1)) Lh z).2.2 (σ mC 5)) T)) args s 0 0 (fun q => b ≤ q)) T σ 0 [some (og mC), some (oi z), none, none] []
  refine r_al0 (q := 1) C dX9_derive_0 rfl ?_
  refine r_il1 (q := 2) C dX9_derive_1 rfl ?_
  refine r_callVb (q := 5) C (c_X9_isEdition hM hI (by omega)) m_X9_112 (by assumption) (by omega) dX9_derive_2 rfl rfl (by decide) (by decide) (Nat.le_of_ble_eq_true rfl) (fun br2 => ?_) (fun br2 => ?_)
  · refine r_ifne_t (q := 10) C (by decide) (by omega) dX9_derive_5 (by decide) ?_
    obtain ⟨kN, rfl, hkN, hkN6⟩ := isEd_n hI br2
    have hIE := oI_b hI hkN
    have hs := fDerive.eq_1 (σ (mC + 1)) Lh (kN : Int)
    rw [if_pos br2] at hs
    refine r_al0 (q := 11) C dX9_derive_10 rfl ?_
    refine r_getR (q := 14) C f_X9_9 dX9_derive_11 rfl rfl (by assumption) (by assumption) (by omega) ?_
    refine r_iconst (q := 15) C dX9_derive_14 rfl ?_
    refine r_iald (q := 16) C (0) dX9_derive_15 rfl (by assumption) (by omega) (by omega) (by omega) (by decide) ?_
    refine r_bipush (q := 18) C dX9_derive_16 (by decide) rfl ?_
    refine r_icne (q := 24) (q2 := 21) C (by omega) (by omega) dX9_derive_18 (by decide) rfl (fun br18 => ?_) (fun br18 => ?_)
    · rw [if_neg (by omega)] at hs
      refine r_al0 (q := 25) C dX9_derive_24 rfl ?_
      refine r_callVv (q := 28) C (c_X9_keeps hM hH (Or.inl h7)) m_X9_129 (by assumption) (by omega) dX9_derive_25 rfl rfl (by decide) (by decide) (Nat.le_of_ble_eq_true rfl) (fun σ2 hσ2 => ?_)
      rw [kept_0 h7] at hσ2
      have e1 := hσ2.2.1 (mC + 1) (by omega) (by omega)
      refine r_al0 (q := 29) C dX9_derive_28 rfl ?_
      refine r_getR (q := 32) C f_X9_9 dX9_derive_29 rfl rfl (by assumption) (by assumption) (by omega) ?_
      refine r_iconst (q := 33) C dX9_derive_32 rfl ?_
      refine r_iald (q := 34) C (0) dX9_derive_33 rfl (by assumption) (by omega) (by omega) (by omega) (by decide) ?_
      rw [e1, ← hIn.1]
      obtain ⟨eN, heN⟩ : ∃ eN, eN = nEd (σ (mC + 1)) := ⟨_, rfl⟩
      rw [← heN]
      refine r_is2 (q := 35) C dX9_derive_34 rfl (by decide) ?_
      refine r_al0 (q := 36) C dX9_derive_35 rfl ?_
      refine r_getR (q := 39) C f_X9_9 dX9_derive_36 rfl rfl (by assumption) (by assumption) (by omega) ?_
      refine r_iconst (q := 40) C dX9_derive_39 rfl ?_
      refine r_dup2 (q := 41) C dX9_derive_40 rfl ?_
      refine r_iald (q := 42) C (0) dX9_derive_41 rfl (by assumption) (by omega) (by omega) (by omega) (by decide) ?_
      rw [e1]
      refine r_iconst (q := 43) C dX9_derive_42 rfl ?_
      refine r_iadd (q := 44) C dX9_derive_43 rfl ?_
      refine r_iast (q := 45) C (0) dX9_derive_44 rfl (by assumption) (by omega) (by omega) (by omega) (by decide) ?_
      refine r_iconst (q := 46) C dX9_derive_45 rfl ?_
      refine r_is3 (q := 47) C dX9_derive_46 rfl (by decide) ?_
      have lp : ∀ (n : Nat) (kx : Nat), 813 - kx < n → (kx ≤ 813) → oW p l ee ({ frames := 3, cells := 0, slots := 0, locals := 66 } : Room) s m args below meth c G b 4 0 0 (MQ below (o_Qc G b (oPs (fun zx σ2 => zx = (fDerive (σ (mC + 1)) Lh (kN : Int)).1 ∧ oMc σ σ2 mC (fDerive (σ (mC + 1)) Lh (kN : Int)).2.1 (fDerive (σ (mC + 1)) Lh (kN : Int)).2.2 (σ mC 5)) T)) args s 0 0 (fun q => b ≤ q)) T (o_row σ2 (mC + 1) (drvG (σ (mC + 1)) eN kN kx)) 47 [some (og mC), some (oi ((kN : Nat) : Int)), some (oi ((eN : Nat) : Int)), some (oi ((kx : Nat) : Int))] [] := by
        intro n
        induction n with
        | zero =>
          intro kx hms
          exact absurd hms (Nat.not_lt_zero _)
        | succ n ih =>
          intro kx hms k1
          refine r_il3 (q := 48) C dX9_derive_47 rfl ?_
          refine r_sipush (q := 51) C dX9_derive_48 (by decide) rfl ?_
          refine r_icge (q := 95) (q2 := 54) C (by omega) (by omega) dX9_derive_51 (by decide) rfl (fun br51 => ?_) (fun br51 => ?_)
          · rw [show kx = 813 by omega]
            refine r_al0 (q := 96) C dX9_derive_95 rfl ?_
            refine r_getR (q := 99) C f_X9_9 dX9_derive_96 rfl rfl (by assumption) (by assumption) (by omega) ?_
            refine r_il2 (q := 100) C dX9_derive_99 rfl ?_
            refine r_iconst (q := 101) C dX9_derive_100 rfl ?_
            refine r_callS1 (q := 104) C (c_X9_at) m_X9_105 dX9_derive_101 rfl rfl (by decide) (by decide) (Nat.le_of_ble_eq_true rfl) ?_
            refine r_il1 (q := 105) C dX9_derive_104 rfl ?_
            refine r_iast (q := 106) C ((179 + 813 * eN)) dX9_derive_105 rfl (by assumption) (by omega) (by omega) (by omega) (by decide) ?_
            rw [o_row_up, drvG_e]
            refine r_il2 (q := 107) C dX9_derive_106 rfl ?_
            exact r_iret C hr dX9_derive_107 (by decide) (by decide) ⟨_, rfl, rfl, by rw [hs]; show (eN : Int) = _; omega, by rw [hs]; exact oMc_of hσ2 (fun x hx => o_row_ne hx) (by rw [o_row_at, Int.toNat_natCast, heN])⟩
          · refine r_al0 (q := 55) C dX9_derive_54 rfl ?_
            refine r_getR (q := 58) C f_X9_9 dX9_derive_55 rfl rfl (by assumption) (by assumption) (by omega) ?_
            refine r_il2 (q := 59) C dX9_derive_58 rfl ?_
            refine r_il3 (q := 60) C dX9_derive_59 rfl ?_
            refine r_callS1 (q := 63) C (c_X9_at) m_X9_105 dX9_derive_60 rfl rfl (by decide) (by decide) (Nat.le_of_ble_eq_true rfl) ?_
            refine r_il3 (q := 64) C dX9_derive_63 rfl ?_
            refine r_iconst (q := 65) C dX9_derive_64 rfl ?_
            refine r_iclt (q := 78) (q2 := 68) C (by omega) (by omega) dX9_derive_65 (by decide) rfl (fun br65 => ?_) (fun br65 => ?_)
            · refine r_al0 (q := 79) C dX9_derive_78 rfl ?_
              refine r_getR (q := 82) C f_X9_9 dX9_derive_79 rfl rfl (by assumption) (by assumption) (by omega) ?_
              refine r_il1 (q := 83) C dX9_derive_82 rfl ?_
              refine r_il3 (q := 84) C dX9_derive_83 rfl ?_
              refine r_callS1 (q := 87) C (c_X9_at) m_X9_105 dX9_derive_84 rfl rfl (by decide) (by decide) (Nat.le_of_ble_eq_true rfl) ?_
              refine r_iald (q := 88) C ((177 + 813 * kN + kx)) dX9_derive_87 rfl (by assumption) (by omega) (by omega) (by omega) (by decide) ?_
              rw [o_row_at, drvG_ne (by omega) (by omega)]
              refine r_iast (q := 89) C ((177 + 813 * eN + kx)) dX9_derive_88 rfl (by assumption) (by omega) (by omega) (by omega) (by decide) ?_
              rw [o_row_up, drvG_s1 (by omega)]
              refine r_iinc3 (q := 92) C dX9_derive_89 rfl (by decide) ?_
              refine r_goto (q := 47) C dX9_derive_92 (by decide) ?_
              exact ih (kx + 1) (by omega) (by omega)
            · refine r_il3 (q := 69) C dX9_derive_68 rfl ?_
              refine r_bipush (q := 71) C dX9_derive_69 (by decide) rfl ?_
              refine r_icge (q := 78) (q2 := 74) C (by omega) (by omega) dX9_derive_71 (by decide) rfl (fun br71 => ?_) (fun br71 => ?_)
              · refine r_al0 (q := 79) C dX9_derive_78 rfl ?_
                refine r_getR (q := 82) C f_X9_9 dX9_derive_79 rfl rfl (by assumption) (by assumption) (by omega) ?_
                refine r_il1 (q := 83) C dX9_derive_82 rfl ?_
                refine r_il3 (q := 84) C dX9_derive_83 rfl ?_
                refine r_callS1 (q := 87) C (c_X9_at) m_X9_105 dX9_derive_84 rfl rfl (by decide) (by decide) (Nat.le_of_ble_eq_true rfl) ?_
                refine r_iald (q := 88) C ((177 + 813 * kN + kx)) dX9_derive_87 rfl (by assumption) (by omega) (by omega) (by omega) (by decide) ?_
                rw [o_row_at, drvG_ne (by omega) (by omega)]
                refine r_iast (q := 89) C ((177 + 813 * eN + kx)) dX9_derive_88 rfl (by assumption) (by omega) (by omega) (by omega) (by decide) ?_
                rw [o_row_up, drvG_s1 (by omega)]
                refine r_iinc3 (q := 92) C dX9_derive_89 rfl (by decide) ?_
                refine r_goto (q := 47) C dX9_derive_92 (by decide) ?_
                exact ih (kx + 1) (by omega) (by omega)
              · refine r_iconst (q := 75) C dX9_derive_74 rfl ?_
                refine r_goto (q := 88) C dX9_derive_75 (by decide) ?_
                refine r_iast (q := 89) C ((177 + 813 * eN + kx)) dX9_derive_88 rfl (by assumption) (by omega) (by omega) (by omega) (by decide) ?_
                rw [o_row_up, drvG_s0 (by omega)]
                refine r_iinc3 (q := 92) C dX9_derive_89 rfl (by decide) ?_
                refine r_goto (q := 47) C dX9_derive_92 (by decide) ?_
                exact ih (kx + 1) (by omega) (by omega)
      have h0 := lp _ 0 (Nat.lt_succ_self _) (by omega)
      rw [← drvG_0, show o_row σ2 (mC + 1) (updF (σ (mC + 1)) 0 (σ (mC + 1) 0 + 1)) = o_up σ2 (mC + 1) 0 (σ (mC + 1) 0 + 1) from o_up_row e1] at h0
      exact h0
    · refine r_bipush (q := 23) C dX9_derive_21 (by decide) rfl ?_
      exact r_iret C hr dX9_derive_23 (by decide) (by decide) ⟨_, rfl, rfl, by rw [hs, if_pos (by omega)], by rw [hs, if_pos (by omega)]; exact oMc_no hH⟩
  · refine r_ifne_f (q := 10) (q2 := 8) C (by decide) (by omega) dX9_derive_5 (by decide) rfl ?_
    refine r_iconst (q := 9) C dX9_derive_8 rfl ?_
    exact r_iret C hr dX9_derive_9 (by decide) (by decide) ⟨_, rfl, rfl, by rw [fDerive, if_neg br2], by rw [fDerive, if_neg br2]; exact oMc_no hH⟩
