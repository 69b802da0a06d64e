def oMr (T T2 : oT) (σ σ2 : oM) (mC nI : Nat) (f : Nat → Int) (Lh : List (Nat → Int)) : Prop := oExt T T2 ∧ (∀ x, x < 5055 → σ2 (mC + 1) x = (fRead nI f (σ (mC + 1)) Lh (σ mC 5)).2.1 x) ∧ oMH σ2 mC (fRead nI f (σ (mC + 1)) Lh (σ mC 5)).2.2.1 ∧ σ2 mC 5 = (fRead nI f (σ (mC + 1)) Lh (σ mC 5)).2.2.2 ∧ σ2 mC 25 = (paP f nI 60 0 []).1 ∧ σ2 mC 26 = fFail nI f (σ (mC + 1)) (σ mC 5) (σ mC 26) ∧ σ2 mC 21 = 0 ∧ σ2 mC 7 = 0 ∧ σ2 mC 6 = σ mC 6 ∧ ∀ x, x < T.1 → x ≠ mC → x ≠ mC + 1 → x ≠ mC + 3 → x ≠ mC + 4 → x ≠ mC + 15 → x ≠ mC + 16 → σ2 x = σ x
set_option maxRecDepth 20000 in
set_option maxHeartbeats 8000000 in
theorem c_X9_read {T : oT} {σ : oM} {mC : Nat} (hM : oMm T mC) {Bd : Int} (hI : oI Bd (σ (mC + 1))) (hBd : Bd ≤ 99000000) {Lh : List (Nat → Int)} (hH : oMH σ mC Lh) (h70 : σ mC 7 = 0) {nI : Nat} {f : Nat → Int} (hi : oMi σ mC nI f) : MS yX9_read cX9_read 3 (some FieldType.int) 6 60 480 127 [og mC] T σ (oPa (fun zx T2 σ2 => zx = (fRead nI f (σ (mC + 1)) Lh (σ mC 5)).1 ∧ oMr T T2 σ σ2 mC nI f Lh)) := by
  have hMc := hM
  obtain ⟨hM0, hMr0, hMr1, hMr2, hMr3, hMr8, hMr9, hMr10, hMr11, hMr13, hMr14, hMr15, hMr16, hMr17, hMr18, hMr19, hMr20, hMk1, hMk2, hMk3, hMk4, hMk5, hMk6, hMk7, hMk8, hMk9, hMk10, hMk11, hMk12, hMk13, hMk14, hMk15, hMk16, hMT⟩ := hMc
  have hI0 := hI.2.1
  have hI1 := hI.2.2.1
  have hI2 := hI.2.2.2.1
  have hIn := oI_n hI
  have hIB := hI.1
  have hn60 := hi.2.1
  refine o_met (by decide +kernel) (Nat.le_of_ble_eq_true rfl) (fun p l ee s m args below meth c G b C hr hn => ?_)
  have C : oCx p s m args meth c G b RX9 cX9_read 3 := C
  show oW p l ee ({ frames := 6, cells := 60, slots := 480, locals := 127 } : Room) s m args below meth c G b 3 0 0 (MQ below (o_Qc G b (oPa (fun zx T2 σ2 => zx = (fRead nI f (σ (mC + 1)) Lh (σ mC 5)).1 ∧ oMr T T2 σ σ2 mC nI f Lh))) args s 60 480 (fun q => b ≤ q)) T σ 0 [some (og mC), none, none] []
  have hs := fRead.eq_1 nI f (σ (mC + 1)) Lh (σ mC 5)
  have hfl := fFail.eq_1 nI f (σ (mC + 1)) (σ mC 5) (σ mC 26)
  refine r_al0 (q := 1) C dX9_read_0 rfl ?_
  refine r_callVB (q := 4) C (c_X9_isWrong hM hi) m_X9_275 (by assumption) (by omega) dX9_read_1 rfl rfl (by decide) (by decide) (Nat.le_of_ble_eq_true rfl) (fun σ2 hσ2 => ?_) (fun σ2 hσ2 => ?_)
  · refine r_ifeq_f (q := 10) (q2 := 7) C (by decide) (by omega) dX9_read_4 (by decide) rfl ?_
    refine r_bipush (q := 9) C dX9_read_7 (by decide) rfl ?_
    obtain ⟨hnf, h25, hv21, hvx, hvk⟩ := hσ2
    rw [if_pos hnf] at hs hfl
    refine r_iret C hr dX9_read_9 (by decide) (by decide) ?_
    exact ⟨_, rfl, by rw [hs], oExt_rf, fun x hx => by rw [hs, hvx (mC + 1) (by omega) (by omega) (by omega)], by rw [hs]; exact oMH_fr hH (hvk 4 (by decide) (by decide) (by decide) (by decide) (by decide) (by decide)) (hvx _ (by omega) (by omega) (by omega)), by rw [hs]; exact hvk 5 (by decide) (by decide) (by decide) (by decide) (by decide) (by decide), h25, by rw [hfl]; exact hvk 26 (by decide) (by decide) (by decide) (by decide) (by decide) (by decide), hv21, by rw [hvk 7 (by decide) (by decide) (by decide) (by decide) (by decide) (by decide)]; exact h70, hvk 6 (by decide) (by decide) (by decide) (by decide) (by decide) (by decide), fun x x1 x2 x3 x4 x5 x6 x7 => hvx x x2 x6 x7⟩
  · refine r_ifeq_t (q := 10) C (by decide) (by omega) dX9_read_4 (by decide) ?_
    obtain ⟨hft, h25, hcs, hv21, hvx, hvk⟩ := hσ2
    rw [if_neg (fun hc => hc hft)] at hs hfl
    have hnow2 : σ2 (mC + 1) = σ (mC + 1) := hvx (mC + 1) (by omega) (by omega) (by omega)
    refine r_al0 (q := 11) C dX9_read_10 rfl ?_
    refine r_getR (q := 14) C f_X9_9 dX9_read_11 rfl rfl (by assumption) (by assumption) (by omega) ?_
    refine r_iconst (q := 15) C dX9_read_14 rfl ?_
    refine r_al0 (q := 16) C dX9_read_15 rfl ?_
    refine r_getR (q := 19) C f_X9_16 dX9_read_16 rfl rfl (by assumption) (by assumption) (by omega) ?_
    refine r_iconst (q := 20) C dX9_read_19 rfl ?_
    refine r_callSv (q := 23) C (c_X9_copies (aC := mC + 1) (bC := mC + 3) (fN := 0) (tN := 0) (la := 5055) (lb := 5055) (by assumption) (by assumption) (by omega) (by omega) (by omega) (by omega) (by decide) (by decide) (Or.inl (by omega))) m_X9_97 dX9_read_20 rfl rfl (by decide) (by decide) (Nat.le_of_ble_eq_true rfl) (fun σ3 hσ3 => ?_)
    subst hσ3
    refine r_al0 (q := 24) C dX9_read_23 rfl ?_
    refine r_iconst (q := 25) C dX9_read_24 rfl ?_
    refine r_putZ (q := 28) C fp_X9_34 dX9_read_25 rfl rfl (by decide) (by assumption) (by omega) ?_
    refine r_iconst (q := 29) C dX9_read_28 rfl ?_
    refine r_is1 (q := 30) C dX9_read_29 rfl (by decide) ?_
    have hokL : ∀ c ∈ (paP f nI 60 0 []).2, okC c := paP_okC 60 0 [] (fun c hc => by cases hc)
    have hlL : (paP f nI 60 0 []).2.length ≤ nI := paP_len 60 0 [] (Nat.zero_le _) (Nat.zero_le _)
    have h4k : ∀ k, k ≠ 7 → (o_up (o_cpy σ2 (mC + 1) 0 (mC + 3) 0 5055) mC 7 1) mC k = σ2 mC k := fun k hk => by rw [o_up_nj (Or.inr hk), o_cpy_ne (by omega)]
    have hw4 : (o_up (o_cpy σ2 (mC + 1) 0 (mC + 3) 0 5055) mC 7 1) mC 7 = 1 := o_up_at
    have hcm4 : (o_up (o_cpy σ2 (mC + 1) 0 (mC + 3) 0 5055) mC 7 1) mC 23 = (((paP f nI 60 0 []).2.length : Nat) : Int) := by rw [h4k 23 (by decide)]; exact hcs.1
    have hcs4 : ∀ (kx : Nat) (c : oCmd), (paP f nI 60 0 []).2[kx]? = some c → (o_up (o_cpy σ2 (mC + 1) 0 (mC + 3) 0 5055) mC 7 1) (mC + 15) kx = c.1 ∧ ∀ (j : Nat) (v : Int), c.2[j]? = some v → (o_up (o_cpy σ2 (mC + 1) 0 (mC + 3) 0 5055) mC 7 1) (mC + 16) (5 * kx + j) = v := fun kx c hc => by
      rw [o_up_ne (by omega), o_cpy_ne (by omega), o_up_ne (by omega), o_cpy_ne (by omega)]
      exact hcs.2 kx c hc
    have lp : ∀ (n : Nat) (T3 : oT) (σ1 : oM) (ix : Nat) (A1 : Nat → Int) (rf1 : Int) (w2 : Option oV), (paP f nI 60 0 []).2.length - ix < n → (ix ≤ (paP f nI 60 0 []).2.length) → (oExt T T3) → (σ1 (mC + 1) = A1) → (oI (Bd + 2700 * (ix : Int)) A1) → (fRun (paP f nI 60 0 []).2 0 (σ (mC + 1)) (σ mC 5) = fRun ((paP f nI 60 0 []).2.drop ix) ix A1 rf1) → (σ1 mC 5 = rf1) → (oMH σ1 mC Lh) → (∀ x, x < T.1 → x ≠ mC → x ≠ mC + 1 → x ≠ mC + 4 → σ1 x = (o_up (o_cpy σ2 (mC + 1) 0 (mC + 3) 0 5055) mC 7 1) x) → (∀ k, k ≠ 4 → k ≠ 5 → σ1 mC k = (o_up (o_cpy σ2 (mC + 1) 0 (mC + 3) 0 5055) mC 7 1) mC k) → oW p l ee ({ frames := 6, cells := 60, slots := 480, locals := 127 } : Room) s m args below meth c G b 3 ix (8 * ix) (MQ below (o_Qc G b (oPa (fun zx T2 σ2 => zx = (fRead nI f (σ (mC + 1)) Lh (σ mC 5)).1 ∧ oMr T T2 σ σ2 mC nI f Lh))) args s 60 480 (fun q => b ≤ q)) T3 σ1 30 [some (og mC), some (oi ((ix : Nat) : Int)), w2] [] := by
      intro n
      induction n with
      | zero =>
        intro T3 σ1 ix A1 rf1 w2 hms
        exact absurd hms (Nat.not_lt_zero _)
      | succ n ih =>
        intro T3 σ1 ix A1 rf1 w2 hms h1 h2 h5 h3 h4 h6 h7 h8 h9
        have hM3 : oMm T3 mC := oMm_ext hM h2
        have hM3c := hM3
        obtain ⟨hN0, hNr0, hNr1, hNr2, hNr3, hNr8, hNr9, hNr10, hNr11, hNr13, hNr14, hNr15, hNr16, hNr17, hNr18, hNr19, hNr20, hNk1, hNk2, hNk3, hNk4, hNk5, hNk6, hNk7, hNk8, hNk9, hNk10, hNk11, hNk12, hNk13, hNk14, hNk15, hNk16, hNT⟩ := hM3c
        refine r_il1 (q := 31) C dX9_read_30 rfl ?_
        refine r_al0 (q := 32) C dX9_read_31 rfl ?_
        refine r_getI (q := 35) C f_X9_82 dX9_read_32 rfl rfl (by assumption) (by omega) ?_
        rw [h9 23 (by decide) (by decide), hcm4]
        refine r_icge (q := 89) (q2 := 38) C (by omega) (by omega) dX9_read_35 (by decide) rfl (fun br35 => ?_) (fun br35 => ?_)
        · have hdr0 : (paP f nI 60 0 []).2.drop ix = [] := List.drop_eq_nil_of_le (by omega)
          rw [hdr0] at h4
          have h4e : fRun (paP f nI 60 0 []).2 0 (σ (mC + 1)) (σ mC 5) = (none, A1, rf1) := h4
          rw [if_pos (by rw [h4e])] at hs
          refine r_al0 (q := 90) C dX9_read_89 rfl ?_
          refine r_iconst (q := 91) C dX9_read_90 rfl ?_
          refine r_putZ (q := 94) C fp_X9_34 dX9_read_91 rfl rfl (by decide) (by assumption) (by omega) ?_
          refine r_al0 (q := 95) C dX9_read_94 rfl ?_
          refine r_al0 (q := 96) C dX9_read_95 rfl ?_
          refine r_al0 (q := 97) C dX9_read_96 rfl ?_
          refine r_getR (q := 100) C f_X9_16 dX9_read_97 rfl rfl (by assumption) (by assumption) (by omega) ?_
          refine r_callVs (q := 103) C (c_X9_keepsFrom (aC := mC + 3) hM3 (oMH_fr h7 (o_up_nj (Or.inr (by decide))) (o_up_ne (by omega))) (by assumption) (by omega) (by omega) (by omega)) m_X9_101 (by assumption) (by omega) dX9_read_100 rfl rfl (by decide) ⟨by show ix ≤ 60; omega, by show 8 * ix ≤ 480; omega⟩ (Nat.le_of_ble_eq_true rfl) (fun z6 σ6 hσ6 => ?_)
          obtain ⟨hz6, hk1, hk2, hk3⟩ := hσ6
          refine r_putI (q := 106) C fp_X9_23 dX9_read_103 rfl rfl (by assumption) (by omega) ?_
          refine r_al0 (q := 107) C dX9_read_106 rfl ?_
          refine r_getI (q := 110) C f_X9_82 dX9_read_107 rfl rfl (by assumption) (by omega) ?_
          have hcmf : o_up σ6 mC 4 z6 mC 23 = (((paP f nI 60 0 []).2.length : Nat) : Int) := by rw [o_up_nj (Or.inr (by decide)), hk3 23 (by decide), o_up_nj (Or.inr (by decide)), h9 23 (by decide) (by decide), hcm4]
          rw [hcmf]
          refine r_iret C hr dX9_read_110 (by omega) (by omega) ?_
          have hBA : ∀ x, x < 5055 → σ1 (mC + 3) x = σ (mC + 1) x := fun x hx => by
            rw [h8 (mC + 3) (by omega) (by omega) (by omega) (by omega), o_up_ne (by omega), show x = 0 + x by omega, o_cpy_in hx, hnow2]
          have hk0 : oMH σ6 mC (hpush Lh (σ1 (mC + 3))) := by rw [o_up_ne (show mC + 3 ≠ mC by omega)] at hk1; exact hk1
          have hH6 := oMH_B hk0 hBA
          have h6x : ∀ x, x ≠ mC → x ≠ mC + 4 → o_up σ6 mC 4 z6 x = σ1 x := fun x x1 x2 => by rw [o_up_ne x1, hk2 x x1 x2, o_up_ne x1]
          have h6m : ∀ k, k ≠ 4 → k ≠ 7 → o_up σ6 mC 4 z6 mC k = σ1 mC k := fun k k4 k7 => by rw [o_up_nj (Or.inr k4), hk3 k k4, o_up_nj (Or.inr k7)]
          refine ⟨_, rfl, by rw [hs], h2, fun x hx => ?_, ?_, ?_, ?_, ?_, ?_, ?_, ?_, fun x x1 x2 x3 x4 x5 x6 x7 => ?_⟩
          · rw [hs, h4e, h6x (mC + 1) (by omega) (by omega), h5]
          · rw [hs]
            refine oMH_fr hH6 ?_ (o_up_ne (by omega))
            rw [o_up_at, hz6, hk0.1, o_up_ne (show mC + 3 ≠ mC by omega)]
          · rw [hs, h4e, h6m 5 (by decide) (by decide), h6]
          · rw [h6m 25 (by decide) (by decide), h9 25 (by decide) (by decide), h4k 25 (by decide), hft]
            exact h25
          · rw [hfl, h4e, h6m 26 (by decide) (by decide), h9 26 (by decide) (by decide), h4k 26 (by decide)]
            exact hvk 26 (by decide) (by decide) (by decide) (by decide) (by decide) (by decide)
          · rw [h6m 21 (by decide) (by decide), h9 21 (by decide) (by decide), h4k 21 (by decide)]
            exact hv21
          · rw [o_up_nj (Or.inr (by decide)), hk3 7 (by decide), o_up_at]
          · rw [h6m 6 (by decide) (by decide), h9 6 (by decide) (by decide), h4k 6 (by decide)]
            exact hvk 6 (by decide) (by decide) (by decide) (by decide) (by decide) (by decide)
          · rw [h6x x x2 x5, h8 x x1 x2 x3 x5, o_up_ne x2, o_cpy_ne x4]
            exact hvx x x2 x6 x7
        · obtain ⟨⟨cl, ns⟩, hcx⟩ : ∃ c, (paP f nI 60 0 []).2[ix]? = some c := ⟨(paP f nI 60 0 []).2[ix]'(by omega), List.getElem?_eq_getElem (by omega)⟩
          have hok := hokL _ (List.mem_of_getElem? hcx)
          have hdc := drop_c hcx
          obtain ⟨hl1, hl2⟩ := hcs4 ix _ hcx
          have hrx := fDo_r (rf := rf1) (c := (cl, ns)) h3
          have hIx := fDo_I (rf := rf1) (c := (cl, ns)) h3 (by omega)
          have hfr := fRun.eq_2 ix A1 rf1 (cl, ns) ((paP f nI 60 0 []).2.drop (ix + 1))
          rw [← hdc, ← h4] at hfr
          refine r_al0 (q := 39) C dX9_read_38 rfl ?_
          refine r_il1 (q := 40) C dX9_read_39 rfl ?_
          refine r_callV (q := 43) C (c_X9_does (kN := ix) (cl := cl) (ns := ns) hM3 (Bd := Bd + 2700 * (ix : Int)) (by rw [h5]; exact h3) h7 (by rw [h9 7 (by decide) (by decide)]; exact hw4) (by omega) hok (by rw [h8 _ (by omega) (by omega) (by omega) (by omega)]; exact hl1) (fun jx v hv => by rw [h8 _ (by omega) (by omega) (by omega) (by omega)]; exact hl2 jx v hv)) m_X9_279 (by assumption) (by omega) dX9_read_40 rfl rfl (by decide) ⟨by show ix + 1 ≤ 60; omega, by show 8 * ix + 8 ≤ 480; omega⟩ (Nat.le_of_ble_eq_true rfl) (fun r2 T4 σ5 hσ5 => ?_)
          obtain ⟨zx, rfl, hz, hE⟩ := hσ5
          rw [h5, h6] at hz hE
          have hx4 := oExt_tr h2 hE.1
          have hzr : o_r zx := by rw [hz]; exact hrx
          have hM4 : oMm T4 mC := oMm_ext hM hx4
          have hM4c := hM4
          obtain ⟨hU0, hUr0, hUr1, hUr2, hUr3, hUr8, hUr9, hUr10, hUr11, hUr13, hUr14, hUr15, hUr16, hUr17, hUr18, hUr19, hUr20, hUk1, hUk2, hUk3, hUk4, hUk5, hUk6, hUk7, hUk8, hUk9, hUk10, hUk11, hUk12, hUk13, hUk14, hUk15, hUk16, hUT⟩ := hM4c
          refine r_is2 (q := 44) C dX9_read_43 rfl (by decide) ?_
          refine r_il2 (q := 45) C dX9_read_44 rfl ?_
          refine r_ifge (q := 83) (q2 := 48) C (by omega) dX9_read_45 (by decide) rfl (fun br45 => ?_) (fun br45 => ?_)
          · refine r_iinc1 (q := 86) C dX9_read_83 rfl (by decide) ?_
            refine r_goto (q := 30) C dX9_read_86 (by decide) ?_
            rw [if_neg (fun hc => by rw [← hz] at hc; omega)] at hfr
            exact ih T4 σ5 (ix + 1) _ _ _ (by omega) (by omega) hx4 hE.2.1 (by rw [show Bd + 2700 * ((ix + 1 : Nat) : Int) = Bd + 2700 * (ix : Int) + 2700 by omega]; exact hIx) hfr hE.2.2.2.2.2 hE.2.2.1 (fun x x1 x2 x3 x4 => by rw [hE.2.2.2.1 x (Nat.lt_of_lt_of_le x1 h2.1) x2 x3 x4]; exact h8 x x1 x2 x3 x4) (fun k k4 k5 => by rw [hE.2.2.2.2.1 k k4 k5]; exact h9 k k4 k5)
          · refine r_il2 (q := 49) C dX9_read_48 rfl ?_
            refine r_bipush (q := 51) C dX9_read_49 (by decide) rfl ?_
            refine r_icne (q := 57) (q2 := 54) C (by omega) (by omega) dX9_read_51 (by decide) rfl (fun br51 => ?_) (fun br51 => ?_)
            · rw [if_pos (by rw [← hz]; omega)] at hfr
              have hfn : ¬ (fRun (paP f nI 60 0 []).2 0 (σ (mC + 1)) (σ mC 5)).1 = none := by
                rw [hfr]
                exact fun hc => by cases hc
              rw [if_neg hfn] at hs
              have h8x : ∀ x, x < T.1 → x ≠ mC → x ≠ mC + 1 → x ≠ mC + 4 → σ5 x = (o_up (o_cpy σ2 (mC + 1) 0 (mC + 3) 0 5055) mC 7 1) x := fun x x1 x2 x3 x4 => by rw [hE.2.2.2.1 x (Nat.lt_of_lt_of_le x1 h2.1) x2 x3 x4]; exact h8 x x1 x2 x3 x4
              have h9x : ∀ k, k ≠ 4 → k ≠ 5 → σ5 mC k = (o_up (o_cpy σ2 (mC + 1) 0 (mC + 3) 0 5055) mC 7 1) mC k := fun k k4 k5 => by rw [hE.2.2.2.2.1 k k4 k5]; exact h9 k k4 k5
              refine r_al0 (q := 58) C dX9_read_57 rfl ?_
              refine r_iconst (q := 59) C dX9_read_58 rfl ?_
              refine r_putZ (q := 62) C fp_X9_34 dX9_read_59 rfl rfl (by decide) (by assumption) (by omega) ?_
              refine r_al0 (q := 63) C dX9_read_62 rfl ?_
              refine r_getR (q := 66) C f_X9_16 dX9_read_63 rfl rfl (by assumption) (by assumption) (by omega) ?_
              refine r_iconst (q := 67) C dX9_read_66 rfl ?_
              refine r_al0 (q := 68) C dX9_read_67 rfl ?_
              refine r_getR (q := 71) C f_X9_9 dX9_read_68 rfl rfl (by assumption) (by assumption) (by omega) ?_
              refine r_iconst (q := 72) C dX9_read_71 rfl ?_
              refine r_callSv (q := 75) C (c_X9_copies (aC := mC + 3) (bC := mC + 1) (fN := 0) (tN := 0) (la := 5055) (lb := 5055) (by assumption) (by assumption) (by omega) (by omega) (by omega) (by omega) (by decide) (by decide) (Or.inl (by omega))) m_X9_97 dX9_read_72 rfl rfl (by decide) ⟨by show ix + 1 ≤ 60; omega, by show 8 * ix + 8 ≤ 480; omega⟩ (Nat.le_of_ble_eq_true rfl) (fun σ6 hσ6 => ?_)
              refine r_al0 (q := 76) C dX9_read_75 rfl ?_
              refine r_il1 (q := 77) C dX9_read_76 rfl ?_
              refine r_putI (q := 80) C fp_X9_91 dX9_read_77 rfl rfl (by assumption) (by omega) ?_
              refine r_bipush (q := 82) C dX9_read_80 (by decide) rfl ?_
              refine r_iret C hr dX9_read_82 (by omega) (by omega) ?_
              have h6x : ∀ x, x ≠ mC → x ≠ mC + 1 → o_up σ6 mC 26 (ix : Int) x = σ5 x := fun x x1 x2 => by rw [o_up_ne x1, hσ6, o_cpy_ne x2, o_up_ne x1]
              have h6m : ∀ k, k ≠ 7 → k ≠ 26 → o_up σ6 mC 26 (ix : Int) mC k = σ5 mC k := fun k k7 k26 => by rw [o_up_nj (Or.inr k26), hσ6, o_cpy_ne (by omega), o_up_nj (Or.inr k7)]
              refine ⟨_, rfl, by rw [hs], hx4, fun x hx => ?_, ?_, ?_, ?_, ?_, ?_, ?_, ?_, fun x x1 x2 x3 x4 x5 x6 x7 => ?_⟩
              · rw [hs, o_up_ne (by omega), hσ6, show x = 0 + x by omega, o_cpy_in hx, o_up_ne (by omega), h8x (mC + 3) (by omega) (by omega) (by omega) (by omega)]
                show (o_up (o_cpy σ2 (mC + 1) 0 (mC + 3) 0 5055) mC 7 1) (mC + 3) (0 + x) = σ (mC + 1) (0 + x)
                rw [o_up_ne (by omega), o_cpy_in hx, hnow2]
              · rw [hs]
                exact oMH_fr hE.2.2.1 (h6m 4 (by decide) (by decide)) (h6x (mC + 4) (by omega) (by omega))
              · rw [hs, h6m 5 (by decide) (by decide), hE.2.2.2.2.2, hfr]
              · rw [h6m 25 (by decide) (by decide), h9x 25 (by decide) (by decide), h4k 25 (by decide)]
                rw [hft]
                exact h25
              · rw [hfl, hfr, o_up_at]
              · rw [h6m 21 (by decide) (by decide), h9x 21 (by decide) (by decide), h4k 21 (by decide)]
                exact hv21
              · rw [o_up_nj (Or.inr (by decide)), hσ6, o_cpy_ne (by omega), o_up_at]
              · rw [h6m 6 (by decide) (by decide), h9x 6 (by decide) (by decide), h4k 6 (by decide)]
                exact hvk 6 (by decide) (by decide) (by decide) (by decide) (by decide) (by decide)
              · rw [h6x x x2 x3, h8x x x1 x2 x3 x5, o_up_ne x2, o_cpy_ne x4]
                exact hvx x x2 x6 x7
            · refine r_goto (q := 83) C dX9_read_54 (by decide) ?_
              refine r_iinc1 (q := 86) C dX9_read_83 rfl (by decide) ?_
              refine r_goto (q := 30) C dX9_read_86 (by decide) ?_
              rw [if_neg (fun hc => by rw [← hz] at hc; omega)] at hfr
              exact ih T4 σ5 (ix + 1) _ _ _ (by omega) (by omega) hx4 hE.2.1 (by rw [show Bd + 2700 * ((ix + 1 : Nat) : Int) = Bd + 2700 * (ix : Int) + 2700 by omega]; exact hIx) hfr hE.2.2.2.2.2 hE.2.2.1 (fun x x1 x2 x3 x4 => by rw [hE.2.2.2.1 x (Nat.lt_of_lt_of_le x1 h2.1) x2 x3 x4]; exact h8 x x1 x2 x3 x4) (fun k k4 k5 => by rw [hE.2.2.2.2.1 k k4 k5]; exact h9 k k4 k5)
    exact lp _ T (o_up (o_cpy σ2 (mC + 1) 0 (mC + 3) 0 5055) mC 7 1) 0 (σ (mC + 1)) (σ mC 5) none (Nat.lt_succ_self _) (Nat.zero_le _) oExt_rf (by rw [o_up_ne (by omega), o_cpy_ne (by omega)]; exact hnow2) (by rw [show Bd + 2700 * ((0 : Nat) : Int) = Bd by omega]; exact hI) rfl (by rw [h4k 5 (by decide)]; exact hvk 5 (by decide) (by decide) (by decide) (by decide) (by decide) (by decide)) (oMH_fr hH (by rw [h4k 4 (by decide)]; exact hvk 4 (by decide) (by decide) (by decide) (by decide) (by decide) (by decide)) (by rw [o_up_ne (by omega), o_cpy_ne (by omega)]; exact hvx _ (by omega) (by omega) (by omega))) (fun _ _ _ _ _ => rfl) (fun _ _ _ => rfl)
