/-- what reading the input answers and makes -/
def fRead (nI : Nat) (f A : Nat → Int) (Lh : List (Nat → Int)) (rf : Int) : Int × (Nat → Int) × List (Nat → Int) × Int :=
  if (paP f nI 60 0 []).1 ≠ -7 then (-2, A, Lh, rf)
  else if (fRun (paP f nI 60 0 []).2 0 A rf).1 = none then (((paP f nI 60 0 []).2.length : Int), (fRun (paP f nI 60 0 []).2 0 A rf).2.1, hpush Lh A, (fRun (paP f nI 60 0 []).2 0 A rf).2.2)
  else (-3, A, Lh, (fRun (paP f nI 60 0 []).2 0 A rf).2.2)
def fFail (nI : Nat) (f A : Nat → Int) (rf fl : Int) : Int := if (paP f nI 60 0 []).1 ≠ -7 then fl else match (fRun (paP f nI 60 0 []).2 0 A rf).1 with
  | none => fl
  | some k => (k : Int)
theorem paP_r {f : Nat → Int} {nI : Nat} : ∀ (k px : Nat) (acc : List oCmd), px ≤ nI → -7 ≤ (paP f nI k px acc).1 ∧ (paP f nI k px acc).1 ≤ (nI : Int)
  | 0, px, acc, h => ⟨by show -7 ≤ (px : Int); omega, by show (px : Int) ≤ nI; omega⟩
  | k + 1, px, acc, h => by
    have hle := pcP_le (f := f) (nI := nI) (px := px)
    rcases hq : pcP f nI px with ⟨qx, oc2⟩
    rw [hq] at hle
    have h4 := hle.2.1 h
    cases oc2 with
    | none =>
      rw [paP_bad (by rw [hq]), hq]
      exact ⟨by show -7 ≤ (qx : Int); omega, by show (qx : Int) ≤ nI; omega⟩
    | some c =>
      rw [paP_ok hq]
      by_cases h1 : nI ≤ qx
      · rw [if_pos h1]
        exact ⟨Int.le_refl _, by show (-7 : Int) ≤ nI; omega⟩
      · rw [if_neg h1]
        by_cases h5 : f qx = 59
        · rw [if_pos h5]
          exact paP_r k (qx + 1) _ (by omega)
        · rw [if_neg h5]
          exact ⟨by show -7 ≤ (qx : Int); omega, by show (qx : Int) ≤ nI; omega⟩
set_option maxRecDepth 20000 in
set_option maxHeartbeats 8000000 in
theorem c_X8_read {T : oT} {σ : oM} {xC : Nat} {A : Nat → Int} {Bd : Int} (hX : oX T xC) (hR : oHR σ (xC + 1) A) (hI : oI Bd A) (hBd : Bd ≤ 99000000) {Lh : List (Nat → Int)} (hH : oHis σ (xC + 209) Lh) (hb : ∀ B ∈ Lh, nEd B ≤ 6 ∧ nLn B ≤ 20) (hT2 : oTx T (xC + 1163)) {nI : Nat} {f : Nat → Int} (hIn2 : oIn σ (xC + 1163) nI f) : MS yX8_read cX8_read 2 (some FieldType.int) 6 0 0 132 [og xC] T σ (oPs (fun zx σ2 => zx = (fRead nI f A Lh (σ xC 10)).1 ∧ oHR σ2 (xC + 1) (fRead nI f A Lh (σ xC 10)).2.1 ∧ oHis σ2 (xC + 209) (fRead nI f A Lh (σ xC 10)).2.2.1 ∧ σ2 xC 10 = (fRead nI f A Lh (σ xC 10)).2.2.2 ∧ σ2 xC 8 = (paP f nI 60 0 []).1 ∧ σ2 xC 9 = fFail nI f A (σ xC 10) (σ xC 9) ∧ σ2 xC 7 = σ xC 7 ∧ σ2 (xC + 1163) 1 = 0 ∧ ∀ x, (x < xC ∨ (xC + 105 ≤ x ∧ x < xC + 209) ∨ (xC + 1147 ≤ x ∧ x < xC + 1163) ∨ xC + 1227 ≤ x) → σ2 x = σ x) T) := by
  have hXc := hX
  obtain ⟨hX0, hXr0, hXr1, hXr2, hXr3, hXr4, hXr5, hXr6, hXn, hXs, hXy, hXq, hXk, hXb, hXbs, hXi, hXT⟩ := hXc
  have hHc := hXn
  obtain ⟨hH0, hH1, hH2, hH3, hH4, hH6, hG1, hG80, hG81, hG82, hG83, hEs, hLs, hHT⟩ := hHc
  have hRc := hR
  obtain ⟨hR0, hR5, hR7, hRw8, hRp, hRl, hRe⟩ := hRc
  have hIn := oI_n hI
  have hIc := hI
  obtain ⟨hI1, hI2, hI3, hI4, hI5, hI6, hI7, hI8, -⟩ := hIc
  have hY0 := hXy.1
  have hHc2 := hH
  obtain ⟨on, sn, ho, ho9, hsz, hlen, hs8, hrow⟩ := hHc2
  have hTc := hT2
  obtain ⟨hJ0, hJr0, hJr4, hJr5, hJs1, hJs2, hJs3, hJrw, hJT⟩ := hTc
  refine o_met (by decide +kernel) (Nat.le_of_ble_eq_true rfl) (fun p l ee s m args below meth c G b C hr hn => ?_)
  have C : oCx p s m args meth c G b RX8 cX8_read 2 := C
  show oW p l ee ({ frames := 6, cells := 0, slots := 0, locals := 132 } : Room) s m args below meth c G b 2 0 0 (MQ below (o_Qc G b (oPs (fun zx σ2 => zx = (fRead nI f A Lh (σ xC 10)).1 ∧ oHR σ2 (xC + 1) (fRead nI f A Lh (σ xC 10)).2.1 ∧ oHis σ2 (xC + 209) (fRead nI f A Lh (σ xC 10)).2.2.1 ∧ σ2 xC 10 = (fRead nI f A Lh (σ xC 10)).2.2.2 ∧ σ2 xC 8 = (paP f nI 60 0 []).1 ∧ σ2 xC 9 = fFail nI f A (σ xC 10) (σ xC 9) ∧ σ2 xC 7 = σ xC 7 ∧ σ2 (xC + 1163) 1 = 0 ∧ ∀ x, (x < xC ∨ (xC + 105 ≤ x ∧ x < xC + 209) ∨ (xC + 1147 ≤ x ∧ x < xC + 1163) ∨ xC + 1227 ≤ x) → σ2 x = σ x) T)) args s 0 0 (fun q => b ≤ q)) T σ 0 [some (og xC), none] []
  refine r_al0 (q := 1) C dX8_read_0 rfl ?_
  refine r_al0 (q := 2) C dX8_read_1 rfl ?_
  refine r_getR (q := 5) C f_X8_50 dX8_read_2 rfl rfl (by assumption) (by assumption) (by omega) ?_
  refine r_callVs (q := 8) C (c_X2_parse hT2 hIn2) m_X8_387 (by assumption) (by omega) dX8_read_5 rfl rfl (by decide) (by decide) (Nat.le_of_ble_eq_true rfl) (fun z2 σ2 hσ2 => ?_)
  obtain ⟨hz2, ⟨qx, hPt⟩, hPf⟩ := hσ2
  obtain ⟨σ3, hσ3⟩ : ∃ σ3, σ3 = o_up (o_up σ2 xC 8 z2) (xC + 1163) 1 0 := ⟨_, rfl⟩
  refine r_putI (q := 11) C fp_X8_58 dX8_read_8 rfl rfl (by assumption) (by omega) ?_
  refine r_al0 (q := 12) C dX8_read_11 rfl ?_
  refine r_getR (q := 15) C f_X8_50 dX8_read_12 rfl rfl (by assumption) (by assumption) (by omega) ?_
  refine r_iconst (q := 16) C dX8_read_15 rfl ?_
  refine r_putI (q := 19) C fp_X8_380 dX8_read_16 rfl rfl (by assumption) (by omega) ?_
  rw [← hσ3]
  have h3f : ∀ x, x ≠ xC → (x < xC + 1163 ∨ xC + 1227 ≤ x) → σ3 x = σ x := fun x x1 x2 => by rw [hσ3, o_up_ne (by omega), o_up_ne x1, hPf.1 x (by omega)]
  have h3i : ∀ x, x ≠ xC → x ≠ xC + 1163 → σ3 x = σ2 x := fun x x1 x2 => by rw [hσ3, o_up_ne x2, o_up_ne x1]
  have h3c : ∀ k, k ≠ 1 → σ3 (xC + 1163) k = σ2 (xC + 1163) k := fun k hk => by rw [hσ3, o_up_nj (Or.inr hk), o_up_ne (by omega)]
  have h3x : ∀ k, k ≠ 8 → σ3 xC k = σ xC k := fun k hk => by rw [hσ3, o_up_ne (by omega), o_up_nj (Or.inr hk), hPf.1 xC (by omega)]
  have h38 : σ3 xC 8 = (paP f nI 60 0 []).1 := by rw [hσ3, o_up_ne (by omega), o_up_at, hz2]
  have h31 : σ3 (xC + 1163) 1 = 0 := by rw [hσ3, o_up_at]
  refine r_al0 (q := 20) C dX8_read_19 rfl ?_
  refine r_getI (q := 23) C f_X8_58 dX8_read_20 rfl rfl (by assumption) (by omega) ?_
  rw [h38]
  have hpr := paP_r (f := f) (nI := nI) 60 0 [] (Nat.zero_le _)
  have hn60q := hIn2.2.1
  refine r_bipush (q := 25) C dX8_read_23 (by decide) rfl ?_
  refine r_iceq (q := 31) (q2 := 28) C (by omega) (by omega) dX8_read_25 (by decide) rfl (fun br25 => ?_) (fun br25 => ?_)
  · have hft := br25
    have hs := fRead.eq_1 nI f A Lh (σ xC 10)
    rw [if_neg (fun hc => hc hft)] at hs
    have hfl := fFail.eq_1 nI f A (σ xC 10) (σ xC 9)
    rw [if_neg (fun hc => hc hft)] at hfl
    have hR3 : oHR σ3 (xC + 1) A := oHR_fr hR ⟨hIn.2.2.1, hIn.2.2.2⟩ (fun x x1 x2 => h3f x (by omega) (by omega))
    have hnA : nEd A ≤ 6 ∧ nLn A ≤ 20 := ⟨hIn.2.2.1, hIn.2.2.2⟩
    have ho3 : σ3 (xC + 209) 1 = (on : Int) := by rw [h3f _ (by omega) (by omega)]; exact ho
    have hsz3 : σ3 (xC + 209) 2 = (sn : Int) := by rw [h3f _ (by omega) (by omega)]; exact hsz
    have hrow3 : ∀ (kx : Nat) (B : Nat → Int), Lh[kx]? = some B → oHR σ3 (xC + 209 + 2 + 104 * ((on + kx) % 9)) B := fun kx B hB => oHR_fr (hrow kx B hB) (hb B (List.mem_of_getElem? hB)) (fun x x1 x2 => h3f x (by omega) (by omega))
    obtain ⟨h30, h35, -, -, -, -, h3e⟩ := id hR3
    refine r_al0 (q := 32) C dX8_read_31 rfl ?_
    refine r_getR (q := 35) C f_X8_22 dX8_read_32 rfl rfl (by assumption) (by assumption) (by omega) ?_
    refine r_al0 (q := 36) C dX8_read_35 rfl ?_
    refine r_getR (q := 39) C f_X8_10 dX8_read_36 rfl rfl (by assumption) (by assumption) (by omega) ?_
    refine r_callVv (q := 42) C (c_X5_prepare (Nn := nEd A) (Mn := nLn A) hXy ho3 ho9 hsz3 hs8 hXn (by omega) h30 hnA.1 h35 hnA.2 (fun j hj => ⟨nBr A j, (oHR_e hR3 hj).2.2, (oI_b hI hj).2.2.2⟩)) m_X8_94 (by assumption) (by omega) dX8_read_39 rfl rfl (by decide) (by decide) (Nat.le_of_ble_eq_true rfl) (fun σ4 hσ4 => ?_)
    have hR4r := hdLike_HR hσ4 hR3
    have hf4 := hσ4.2.2.2.2.2.2.2
    have hR4 : oHR σ4 (xC + 1) A := oHR_fr hR3 hnA (fun x x1 x2 => hf4 x (by omega))
    refine r_iconst (q := 43) C dX8_read_42 rfl ?_
    refine r_is1 (q := 44) C dX8_read_43 rfl (by decide) ?_
    have hokL : ∀ c ∈ (paP f nI 60 0 []).2, okC c := paP_okC 60 0 [] (fun c hc => by cases hc)
    have hlL : (paP f nI 60 0 []).2.length ≤ nI := paP_len 60 0 [] (Nat.zero_le _) (Nat.zero_le _)
    have hn60 := hIn2.2.1
    have lp : ∀ (n : Nat) (σ1 : oM) (ix : Nat) (A1 : Nat → Int) (rf1 : Int), (paP f nI 60 0 []).2.length - ix < n → (ix ≤ (paP f nI 60 0 []).2.length) → (oCh σ4 σ1 xC A1 rf1) → (oI (Bd + 2700 * (ix : Int)) A1) → (fRun (paP f nI 60 0 []).2 0 A (σ xC 10) = fRun ((paP f nI 60 0 []).2.drop ix) ix A1 rf1) → oW p l ee ({ frames := 6, cells := 0, slots := 0, locals := 132 } : Room) s m args below meth c G b 2 0 0 (MQ below (o_Qc G b (oPs (fun zx σ2 => zx = (fRead nI f A Lh (σ xC 10)).1 ∧ oHR σ2 (xC + 1) (fRead nI f A Lh (σ xC 10)).2.1 ∧ oHis σ2 (xC + 209) (fRead nI f A Lh (σ xC 10)).2.2.1 ∧ σ2 xC 10 = (fRead nI f A Lh (σ xC 10)).2.2.2 ∧ σ2 xC 8 = (paP f nI 60 0 []).1 ∧ σ2 xC 9 = fFail nI f A (σ xC 10) (σ xC 9) ∧ σ2 xC 7 = σ xC 7 ∧ σ2 (xC + 1163) 1 = 0 ∧ ∀ x, (x < xC ∨ (xC + 105 ≤ x ∧ x < xC + 209) ∨ (xC + 1147 ≤ x ∧ x < xC + 1163) ∨ xC + 1227 ≤ x) → σ2 x = σ x) T)) args s 0 0 (fun q => b ≤ q)) T σ1 44 [some (og xC), some (oi ((ix : Nat) : Int))] [] := by
      intro n
      induction n with
      | zero =>
        intro σ1 ix A1 rf1 hms
        exact absurd hms (Nat.not_lt_zero _)
      | succ n ih =>
        intro σ1 ix A1 rf1 hms h1 h2 h3 h4
        have hin1 : ∀ x, xC + 1163 ≤ x → x < xC + 1227 → σ1 x = σ3 x := fun x x1 x2 => (h2.2.1 x (by omega) (by omega)).trans (hf4 x (by omega))
        refine r_il1 (q := 45) C dX8_read_44 rfl ?_
        refine r_al0 (q := 46) C dX8_read_45 rfl ?_
        refine r_getR (q := 49) C f_X8_50 dX8_read_46 rfl rfl (by assumption) (by assumption) (by omega) ?_
        refine r_getI (q := 52) C f_X8_390 dX8_read_49 rfl rfl (by assumption) (by omega) ?_
        rw [hin1 _ (by omega) (by omega), h3c 3 (by decide), hPt.2.2.1]
        refine r_icge (q := 91) (q2 := 55) C (by omega) (by omega) dX8_read_52 (by decide) rfl (fun br52 => ?_) (fun br52 => ?_)
        · have hdr0 : (paP f nI 60 0 []).2.drop ix = [] := List.drop_eq_nil_of_le (by omega)
          rw [hdr0] at h4
          have h4e : fRun (paP f nI 60 0 []).2 0 A (σ xC 10) = (none, A1, rf1) := h4
          rw [if_pos (by rw [h4e])] at hs
          have hn1 := oI_n h3
          have hoy : σ1 (xC + 209) = σ3 (xC + 209) := (h2.2.1 _ (by omega) (by omega)).trans (hf4 _ (by omega))
          refine r_al0 (q := 92) C dX8_read_91 rfl ?_
          refine r_getR (q := 95) C f_X8_22 dX8_read_92 rfl rfl (by assumption) (by assumption) (by omega) ?_
          refine r_callVv (q := 98) C (c_X5_commit hXy (on := on) (sn := sn) (by rw [hoy]; exact ho3) ho9 (by rw [hoy]; exact hsz3) hs8) m_X8_401 (by assumption) (by omega) dX8_read_95 rfl rfl (by decide) (by decide) (Nat.le_of_ble_eq_true rfl) (fun σ6 hσ6 => ?_)
          have hck := settle_of (z := 0) (σ3 := σ6) hR3 hnA ⟨hn1.2.2.1, hn1.2.2.2⟩ ho3 ho9 hsz3 hlen hs8 hrow3 hb hσ4 h2 (by rw [if_neg (by omega)]; exact hσ6)
          rw [if_neg (by omega)] at hck
          obtain ⟨k1q, k2q, k3q, k4q, k5q⟩ := hck
          refine r_al0 (q := 99) C dX8_read_98 rfl ?_
          refine r_getR (q := 102) C f_X8_50 dX8_read_99 rfl rfl (by assumption) (by assumption) (by omega) ?_
          refine r_getI (q := 105) C f_X8_390 dX8_read_102 rfl rfl (by assumption) (by omega) ?_
          rw [k3q _ (by omega) (by omega), h3c 3 (by decide), hPt.2.2.1]
          refine r_iret C hr dX8_read_105 (by decide) (by decide) ?_
          refine ⟨_, rfl, rfl, by rw [hs], by rw [hs, h4e]; exact k1q, by rw [hs]; exact k2q, by rw [hs, h4e]; exact k5q, by rw [k4q 8 (by decide), h38], by rw [hfl, h4e, k4q 9 (by decide), h3x 9 (by decide)], by rw [k4q 7 (by decide), h3x 7 (by decide)], by rw [k3q _ (by omega) (by omega), h31], fun x hx => ?_⟩
          by_cases hxc : x = xC
          · omega
          · rw [k3q x hxc (by omega), h3f x hxc (by omega)]
        · obtain ⟨⟨cl, ns⟩, hcx⟩ : ∃ c, (paP f nI 60 0 []).2[ix]? = some c := ⟨(paP f nI 60 0 []).2[ix]'(by omega), List.getElem?_eq_getElem (by omega)⟩
          have hok := hokL _ (List.mem_of_getElem? hcx)
          have hdc := drop_c hcx
          obtain ⟨hl1, hl2⟩ := hPt.2.2.2.2 ix _ hcx
          have hrx := fDo_r (rf := rf1) (c := (cl, ns)) h3
          have hIx := fDo_I (rf := rf1) (c := (cl, ns)) h3 (by omega)
          have h410 : σ1 xC 10 = rf1 := h2.2.2.2
          have hfr := fRun.eq_2 ix A1 rf1 (cl, ns) ((paP f nI 60 0 []).2.drop (ix + 1))
          rw [← hdc, ← h4] at hfr
          refine r_al0 (q := 56) C dX8_read_55 rfl ?_
          refine r_il1 (q := 57) C dX8_read_56 rfl ?_
          refine r_callVs (q := 60) C (c_X8_carryOut (kN := ix) (cl := cl) (ns := ns) hX h2.1 h3 (by omega) hT2 (by omega) hok (by rw [hin1 _ (by omega) (by omega), h3i _ (by omega) (by omega)]; exact hl1) (fun jx v hv => by rw [hin1 _ (by omega) (by omega), h3i _ (by omega) (by omega)]; exact hl2 jx v hv)) m_X8_393 (by assumption) (by omega) dX8_read_57 rfl rfl (by decide) (by decide) (Nat.le_of_ble_eq_true rfl) (fun z5 σ5 hσ5 => ?_)
          rw [h410] at hσ5
          obtain ⟨hz5, hC5⟩ := hσ5
          have hC := oCh_tr h2 hC5
          refine r_callSb (q := 63) C (c_X8_isError (z := z5) (by rw [hz5]; exact hrx)) m_X8_396 dX8_read_60 rfl rfl (by decide) (by decide) (Nat.le_of_ble_eq_true rfl) (fun br60 => ?_) (fun br60 => ?_)
          · refine r_ifeq_f (q := 85) (q2 := 66) C (by decide) (by omega) dX8_read_63 (by decide) rfl ?_
            rw [if_pos (by rw [← hz5]; exact br60)] at hfr
            have hn5 := oI_n hIx
            refine r_al0 (q := 67) C dX8_read_66 rfl ?_
            refine r_il1 (q := 68) C dX8_read_67 rfl ?_
            refine r_putI (q := 71) C fp_X8_62 dX8_read_68 rfl rfl (by assumption) (by omega) ?_
            have hR5r : oHR (o_up σ5 xC 9 (ix : Int)) (xC + 209 + 2 + 104 * ((on + sn) % 9)) A := oHR_fr hR4r hnA (fun x x1 x2 => by rw [o_up_ne (by omega), hC.2.1 x (by omega) (by omega)])
            refine r_al0 (q := 72) C dX8_read_71 rfl ?_
            refine r_getR (q := 75) C f_X8_22 dX8_read_72 rfl rfl (by assumption) (by assumption) (by omega) ?_
            refine r_al0 (q := 76) C dX8_read_75 rfl ?_
            refine r_getR (q := 79) C f_X8_10 dX8_read_76 rfl rfl (by assumption) (by assumption) (by omega) ?_
            refine r_callVv (q := 82) C (c_X5_takeBack (Nn := nEd A) (Mn := nLn A) hXy (on := on) (sn := sn) (by rw [o_up_ne (by omega), hC.2.1 _ (by omega) (by omega), hf4 _ (by omega)]; exact ho3) ho9 (by rw [o_up_ne (by omega), hC.2.1 _ (by omega) (by omega), hf4 _ (by omega)]; exact hsz3) hs8 hXn (by omega) hR5r.1 hnA.1 hR5r.2.1 hnA.2 (fun j hj => ⟨nBr A j, (oHR_e hR5r hj).2.2, (oI_b hI hj).2.2.2⟩)) m_X8_399 (by assumption) (by omega) dX8_read_79 rfl rfl (by decide) (by decide) (Nat.le_of_ble_eq_true rfl) (fun σ6 hσ6 => ?_)
            have hR6 := hdLike_HR hσ6 hR5r
            have hf6 := hσ6.2.2.2.2.2.2.2
            refine r_bipush (q := 84) C dX8_read_82 (by decide) rfl ?_
            refine r_iret C hr dX8_read_84 (by decide) (by decide) ?_
            have hfn : ¬ (fRun (paP f nI 60 0 []).2 0 A (σ xC 10)).1 = none := by
              rw [hfr]
              exact fun hc => by cases hc
            rw [if_neg hfn] at hs
            have ho6 : ∀ x, x ≠ xC → (x < xC + 1 ∨ (xC + 105 ≤ x ∧ x < xC + 211) ∨ xC + 1147 ≤ x) → σ6 x = σ3 x := fun x x1 x2 => by
              rw [hf6 x (by omega), o_up_ne x1, hC.2.1 x x1 (by omega), hf4 x (by omega)]
            have hx6 : ∀ k, k ≠ 9 → k ≠ 10 → σ6 xC k = σ3 xC k := fun k k9 k10 => by
              rw [hf6 xC (by omega), o_up_nj (Or.inr k9), hC.2.2.1 k k10, hf4 xC (by omega)]
            refine ⟨_, rfl, rfl, by rw [hs], by rw [hs]; exact hR6, ?_, ?_, ?_, ?_, ?_, ?_, ?_⟩
            · rw [hs]
              refine ⟨on, sn, by rw [ho6 _ (by omega) (by omega)]; exact ho3, ho9, by rw [ho6 _ (by omega) (by omega)]; exact hsz3, hlen, hs8, fun kx B hB => ?_⟩
              have hk : kx < Lh.length := (List.getElem?_eq_some_iff.mp hB).1
              exact oHR_fr (hrow3 kx B hB) (hb B (List.mem_of_getElem? hB)) (fun x x1 x2 => by rw [hf6 x (by omega), o_up_ne (by omega), hC.2.1 x (by omega) (by omega), hf4 x (by omega)])
            · rw [hs, hfr, hf6 xC (by omega), o_up_nj (Or.inr (by decide))]
              exact hC.2.2.2
            · rw [hx6 8 (by decide) (by decide), h38]
            · rw [hfl, hfr, hf6 xC (by omega), o_up_at]
            · rw [hx6 7 (by decide) (by decide), h3x 7 (by decide)]
            · rw [ho6 _ (by omega) (by omega), h31]
            · intro x hx
              by_cases hxc : x = xC
              · omega
              · rw [ho6 x hxc (by omega), h3f x hxc (by omega)]
          · refine r_ifeq_t (q := 85) C (by decide) (by omega) dX8_read_63 (by decide) ?_
            refine r_iinc1 (q := 88) C dX8_read_85 rfl (by decide) ?_
            refine r_goto (q := 44) C dX8_read_88 (by decide) ?_
            rw [if_neg (fun hc => br60 (by rw [hz5]; exact hc))] at hfr
            exact ih _ (ix + 1) _ _ (by omega) (by omega) hC (by rw [show Bd + 2700 * ((ix + 1 : Nat) : Int) = Bd + 2700 * (ix : Int) + 2700 by omega]; exact hIx) hfr
    exact lp _ σ4 0 A (σ xC 10) (Nat.lt_succ_self _) (Nat.zero_le _) ⟨hR4, fun _ _ _ => rfl, fun _ _ => rfl, by rw [hf4 xC (by omega), h3x 10 (by decide)]⟩ (by rw [show Bd + 2700 * ((0 : Nat) : Int) = Bd by omega]; exact hI) rfl
  · refine r_bipush (q := 30) C dX8_read_28 (by decide) rfl ?_
    refine r_iret C hr dX8_read_30 (by decide) (by decide) ?_
    have hs : (fRead nI f A Lh (σ xC 10)) = (-2, A, Lh, σ xC 10) := by rw [fRead, if_pos br25]
    have hfl : fFail nI f A (σ xC 10) (σ xC 9) = σ xC 9 := by rw [fFail, if_pos br25]
    have hnA : nEd A ≤ 6 ∧ nLn A ≤ 20 := ⟨hIn.2.2.1, hIn.2.2.2⟩
    refine ⟨_, rfl, rfl, by rw [hs], by rw [hs]; exact oHR_fr hR hnA (fun x x1 x2 => h3f x (by omega) (by omega)), ?_, by rw [hs, h3x 10 (by decide)], h38, by rw [hfl, h3x 9 (by decide)], h3x 7 (by decide), h31, fun x hx => ?_⟩
    · rw [hs]
      exact ⟨on, sn, by rw [h3f _ (by omega) (by omega)]; exact ho, ho9, by rw [h3f _ (by omega) (by omega)]; exact hsz, hlen, hs8, fun kx B hB => oHR_fr (hrow kx B hB) (hb B (List.mem_of_getElem? hB)) (fun x x1 x2 => h3f x (by omega) (by omega))⟩
    · by_cases hxc : x = xC
      · omega
      · exact h3f x hxc (by omega)
