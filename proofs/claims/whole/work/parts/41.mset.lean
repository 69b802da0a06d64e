/-- the list behind a changing call that answers rx -/
def settleL (rx wi : Int) (Lh : List (Nat → Int)) (A : Nat → Int) : List (Nat → Int) := if rx < 0 ∧ rx ≠ -7 then Lh else keptL wi Lh A
/-- now A, history Lh, the latest reason rf, all else as it was -/
def oMc (σ σ2 : oM) (mC : Nat) (A : Nat → Int) (Lh : List (Nat → Int)) (rf : Int) : Prop := σ2 (mC + 1) = A ∧ oMH σ2 mC Lh ∧ (∀ x, x ≠ mC → x ≠ mC + 1 → x ≠ mC + 4 → σ2 x = σ x) ∧ (∀ k, k ≠ 4 → k ≠ 5 → σ2 mC k = σ mC k) ∧ σ2 mC 5 = rf
theorem oMc_no {σ : oM} {mC : Nat} {Lh : List (Nat → Int)} (h : oMH σ mC Lh) : oMc σ σ mC (σ (mC + 1)) Lh (σ mC 5) := ⟨rfl, h, fun _ _ _ _ => rfl, fun _ _ _ => rfl, rfl⟩
theorem oMc_re {σ : oM} {mC : Nat} {Lh : List (Nat → Int)} {z : Int} (h : oMH σ mC Lh) : oMc σ (o_up σ mC 5 z) mC (σ (mC + 1)) Lh z :=
  ⟨o_up_ne (by omega), oMH_fr h (o_up_nj (by omega)) (o_up_ne (by omega)), fun x x1 _ _ => o_up_ne x1, fun k _ k2 => o_up_nj (Or.inr k2), o_up_at⟩
theorem oMc_of {σ σ2 σ3 : oM} {mC : Nat} {Lh : List (Nat → Int)} {A : Nat → Int} (h : oMk σ σ2 mC Lh) (h1 : ∀ x, x ≠ mC + 1 → σ3 x = σ2 x) (h2 : σ3 (mC + 1) = A) : oMc σ σ3 mC A Lh (σ mC 5) :=
  ⟨h2, oMH_fr h.1 (congrFun (h1 mC (by omega)) 4) (h1 (mC + 4) (by omega)), fun x x1 x2 x4 => by rw [h1 x x2]; exact h.2.1 x x1 x4, fun k k4 _ => by rw [h1 mC (by omega)]; exact h.2.2 k k4, by rw [h1 mC (by omega)]; exact h.2.2 5 (by decide)⟩
theorem o_upF {σ : oM} {a k : Nat} {z : Int} : o_up σ a k z a = updF (σ a) k z := by
  funext j
  unfold o_up updF
  by_cases hc : j = k
  · rw [if_pos ⟨rfl, hc⟩, if_pos hc]
  · rw [if_neg (fun h => hc h.2), if_neg hc]
theorem settle_n {rx wi : Int} {Lh : List (Nat → Int)} {A : Nat → Int} (h : rx < 0 ∧ rx ≠ -7) : settleL rx wi Lh A = Lh := if_pos h
theorem settle_y {rx wi : Int} {Lh : List (Nat → Int)} {A : Nat → Int} (h : 0 ≤ rx ∨ rx = -7) : settleL rx wi Lh A = keptL wi Lh A := if_neg (by omega)
theorem kept_0 {wi : Int} {Lh : List (Nat → Int)} {A : Nat → Int} (h : wi = 0) : keptL wi Lh A = hpush Lh A := if_pos h
set_option maxRecDepth 20000 in
set_option maxHeartbeats 8000000 in
theorem c_X9_tempo {T : oT} {σ : oM} {mC : Nat} (hM : oMm T mC) {Bd : Int} (hI : oI Bd (σ (mC + 1))) {Lh : List (Nat → Int)} (hH : oMH σ mC Lh) (h7 : σ mC 7 = 0 ∨ σ mC 7 = 1) {z v w : Int} (hz : o_r z) (hv : o_r v) (hw : o_r w) : MS yX9_tempo cX9_tempo 5 (some FieldType.int) 3 0 0 66 [og mC, oi z, oi v, oi w] T σ (oPs (fun zx σ2 => zx = (fTempo (σ (mC + 1)) z v w).1 ∧ oMc σ σ2 mC (fTempo (σ (mC + 1)) z v w).2 (settleL (fTempo (σ (mC + 1)) z v w).1 (σ mC 7) Lh (σ (mC + 1))) (σ mC 5)) T) := by
  have hMc := hM
  obtain ⟨hM0, hMr0, hMr1, hMr2, hMr3, hMr8, hMr9, hMr10, hMr11, hMr13, hMr14, hMr15, hMr16, hMr17, hMr18, hMr19, hMr20, hMk1, hMk2, hMk3, hMk4, hMk5, hMk6, hMk7, hMk8, hMk9, hMk10, hMk11, hMk12, hMk13, hMk14, hMk15, hMk16, hMT⟩ := hMc
  have hI0 := hI.2.1
  have hI1 := hI.2.2.1
  have hI2 := hI.2.2.2.1
  have hIn := oI_n hI
  have hIB := hI.1
  refine o_met (by decide +kernel) (Nat.le_of_ble_eq_true rfl) (fun p l ee s m args below meth c G b C hr hn => ?_)
  have C : oCx p s m args meth c G b RX9 cX9_tempo 5 := C
  show oW p l ee ({ frames := 3, cells := 0, slots := 0, locals := 66 } : Room) s m args below meth c G b 5 0 0 (MQ below (o_Qc G b (oPs (fun zx σ2 => zx = (fTempo (σ (mC + 1)) z v w).1 ∧ oMc σ σ2 mC (fTempo (σ (mC + 1)) z v w).2 (settleL (fTempo (σ (mC + 1)) z v w).1 (σ mC 7) Lh (σ (mC + 1))) (σ mC 5)) T)) args s 0 0 (fun q => b ≤ q)) T σ 0 [some (og mC), some (oi z), some (oi v), some (oi w), none] []
  refine r_al0 (q := 1) C dX9_tempo_0 rfl ?_
  refine r_il1 (q := 2) C dX9_tempo_1 rfl ?_
  refine r_il2 (q := 3) C dX9_tempo_2 rfl ?_
  refine r_callVb (q := 6) C (c_X9_isBar hM hI (by omega) (by omega)) m_X9_135 (by assumption) (by omega) dX9_tempo_3 rfl rfl (by decide) (by decide) (Nat.le_of_ble_eq_true rfl) (fun br3 => ?_) (fun br3 => ?_)
  · refine r_ifne_t (q := 11) C (by decide) (by omega) dX9_tempo_6 (by decide) ?_
    obtain ⟨eN, bN, rfl, rfl, heN, heN6, hbN1, hbN2, hbN9⟩ := isBr_n hI br3
    have hIE := oI_b hI heN
    have hIb := hIE.1.2.2.2.2 bN hbN1 hbN2
    have hs := fTempo.eq_1 (σ (mC + 1)) (eN : Int) (bN : Int) w
    rw [if_pos br3] at hs
    simp only [Int.toNat_natCast] at hs
    have hti := hIb.2.2.2.1
    refine r_il3 (q := 12) C dX9_tempo_11 rfl ?_
    refine r_ifeq (q := 31) (q2 := 15) C (by omega) dX9_tempo_12 (by decide) rfl (fun br12 => ?_) (fun br12 => ?_)
    · have hnc : ¬ (w ≠ 0 ∧ ¬ (200 ≤ w ∧ w ≤ 2500)) := by omega
      rw [if_neg hnc] at hs
      refine r_al0 (q := 32) C dX9_tempo_31 rfl ?_
      refine r_callVv (q := 35) C (c_X9_keeps hM hH h7) m_X9_129 (by assumption) (by omega) dX9_tempo_32 rfl rfl (by decide) (by decide) (Nat.le_of_ble_eq_true rfl) (fun σ2 hσ2 => ?_)
      have e1 := hσ2.2.1 (mC + 1) (by omega) (by omega)
      refine r_al0 (q := 36) C dX9_tempo_35 rfl ?_
      refine r_getR (q := 39) C f_X9_9 dX9_tempo_36 rfl rfl (by assumption) (by assumption) (by omega) ?_
      refine r_il1 (q := 40) C dX9_tempo_39 rfl ?_
      refine r_il2 (q := 41) C dX9_tempo_40 rfl ?_
      refine r_callS1 (q := 44) C (c_X9_placeOf) m_X9_132 dX9_tempo_41 rfl rfl (by decide) (by decide) (Nat.le_of_ble_eq_true rfl) ?_
      refine r_iconst (q := 45) C dX9_tempo_44 rfl ?_
      refine r_iadd (q := 46) C dX9_tempo_45 rfl ?_
      refine r_iald (q := 47) C ((193 + 813 * eN + 8 * bN)) dX9_tempo_46 rfl (by assumption) (by omega) (by omega) (by omega) (by decide) ?_
      rw [e1]
      refine r_is4 (q := 49) C dX9_tempo_47 rfl (by decide) ?_
      refine r_al0 (q := 50) C dX9_tempo_49 rfl ?_
      refine r_getR (q := 53) C f_X9_9 dX9_tempo_50 rfl rfl (by assumption) (by assumption) (by omega) ?_
      refine r_il1 (q := 54) C dX9_tempo_53 rfl ?_
      refine r_il2 (q := 55) C dX9_tempo_54 rfl ?_
      refine r_callS1 (q := 58) C (c_X9_placeOf) m_X9_132 dX9_tempo_55 rfl rfl (by decide) (by decide) (Nat.le_of_ble_eq_true rfl) ?_
      refine r_iconst (q := 59) C dX9_tempo_58 rfl ?_
      refine r_iadd (q := 60) C dX9_tempo_59 rfl ?_
      refine r_il3 (q := 61) C dX9_tempo_60 rfl ?_
      refine r_iast (q := 62) C ((193 + 813 * eN + 8 * bN)) dX9_tempo_61 rfl (by assumption) (by omega) (by omega) (by omega) (by decide) ?_
      refine r_il4 (q := 64) C dX9_tempo_62 rfl ?_
      refine r_ifle (q := 72) (q2 := 67) C (by omega) dX9_tempo_64 (by decide) rfl (fun br64 => ?_) (fun br64 => ?_)
      · refine r_bipush (q := 74) C dX9_tempo_72 (by decide) rfl ?_
        refine r_iret C hr dX9_tempo_74 (by decide) (by decide) ?_
        rw [if_pos (show (σ (mC + 1)) (193 + 813 * eN + 8 * bN) = 0 by omega)] at hs
        exact ⟨_, rfl, rfl, by rw [hs], by rw [hs, settle_y (by omega)]; exact oMc_of hσ2 (fun x hx => o_up_ne hx) (by rw [o_upF, e1])⟩
      · refine r_il4 (q := 69) C dX9_tempo_67 rfl ?_
        refine r_goto (q := 74) C dX9_tempo_69 (by decide) ?_
        refine r_iret C hr dX9_tempo_74 (by decide) (by decide) ?_
        rw [if_neg (show ¬ (σ (mC + 1)) (193 + 813 * eN + 8 * bN) = 0 by omega)] at hs
        exact ⟨_, rfl, rfl, by rw [hs], by rw [hs, settle_y (by omega)]; exact oMc_of hσ2 (fun x hx => o_up_ne hx) (by rw [o_upF, e1])⟩
    · refine r_il3 (q := 16) C dX9_tempo_15 rfl ?_
      refine r_sipush (q := 19) C dX9_tempo_16 (by decide) rfl ?_
      refine r_sipush (q := 22) C dX9_tempo_19 (by decide) rfl ?_
      refine r_callSb (q := 25) C (c_X9_in hw (by omega) (by omega)) m_X9_108 dX9_tempo_22 rfl rfl (by decide) (by decide) (Nat.le_of_ble_eq_true rfl) (fun br22 => ?_) (fun br22 => ?_)
      · refine r_ifne_t (q := 31) C (by decide) (by omega) dX9_tempo_25 (by decide) ?_
        have hnc : ¬ (w ≠ 0 ∧ ¬ (200 ≤ w ∧ w ≤ 2500)) := fun hc => hc.2 br22
        rw [if_neg hnc] at hs
        refine r_al0 (q := 32) C dX9_tempo_31 rfl ?_
        refine r_callVv (q := 35) C (c_X9_keeps hM hH h7) m_X9_129 (by assumption) (by omega) dX9_tempo_32 rfl rfl (by decide) (by decide) (Nat.le_of_ble_eq_true rfl) (fun σ2 hσ2 => ?_)
        have e1 := hσ2.2.1 (mC + 1) (by omega) (by omega)
        refine r_al0 (q := 36) C dX9_tempo_35 rfl ?_
        refine r_getR (q := 39) C f_X9_9 dX9_tempo_36 rfl rfl (by assumption) (by assumption) (by omega) ?_
        refine r_il1 (q := 40) C dX9_tempo_39 rfl ?_
        refine r_il2 (q := 41) C dX9_tempo_40 rfl ?_
        refine r_callS1 (q := 44) C (c_X9_placeOf) m_X9_132 dX9_tempo_41 rfl rfl (by decide) (by decide) (Nat.le_of_ble_eq_true rfl) ?_
        refine r_iconst (q := 45) C dX9_tempo_44 rfl ?_
        refine r_iadd (q := 46) C dX9_tempo_45 rfl ?_
        refine r_iald (q := 47) C ((193 + 813 * eN + 8 * bN)) dX9_tempo_46 rfl (by assumption) (by omega) (by omega) (by omega) (by decide) ?_
        rw [e1]
        refine r_is4 (q := 49) C dX9_tempo_47 rfl (by decide) ?_
        refine r_al0 (q := 50) C dX9_tempo_49 rfl ?_
        refine r_getR (q := 53) C f_X9_9 dX9_tempo_50 rfl rfl (by assumption) (by assumption) (by omega) ?_
        refine r_il1 (q := 54) C dX9_tempo_53 rfl ?_
        refine r_il2 (q := 55) C dX9_tempo_54 rfl ?_
        refine r_callS1 (q := 58) C (c_X9_placeOf) m_X9_132 dX9_tempo_55 rfl rfl (by decide) (by decide) (Nat.le_of_ble_eq_true rfl) ?_
        refine r_iconst (q := 59) C dX9_tempo_58 rfl ?_
        refine r_iadd (q := 60) C dX9_tempo_59 rfl ?_
        refine r_il3 (q := 61) C dX9_tempo_60 rfl ?_
        refine r_iast (q := 62) C ((193 + 813 * eN + 8 * bN)) dX9_tempo_61 rfl (by assumption) (by omega) (by omega) (by omega) (by decide) ?_
        refine r_il4 (q := 64) C dX9_tempo_62 rfl ?_
        refine r_ifle (q := 72) (q2 := 67) C (by omega) dX9_tempo_64 (by decide) rfl (fun br64 => ?_) (fun br64 => ?_)
        · refine r_bipush (q := 74) C dX9_tempo_72 (by decide) rfl ?_
          refine r_iret C hr dX9_tempo_74 (by decide) (by decide) ?_
          rw [if_pos (show (σ (mC + 1)) (193 + 813 * eN + 8 * bN) = 0 by omega)] at hs
          exact ⟨_, rfl, rfl, by rw [hs], by rw [hs, settle_y (by omega)]; exact oMc_of hσ2 (fun x hx => o_up_ne hx) (by rw [o_upF, e1])⟩
        · refine r_il4 (q := 69) C dX9_tempo_67 rfl ?_
          refine r_goto (q := 74) C dX9_tempo_69 (by decide) ?_
          refine r_iret C hr dX9_tempo_74 (by decide) (by decide) ?_
          rw [if_neg (show ¬ (σ (mC + 1)) (193 + 813 * eN + 8 * bN) = 0 by omega)] at hs
          exact ⟨_, rfl, rfl, by rw [hs], by rw [hs, settle_y (by omega)]; exact oMc_of hσ2 (fun x hx => o_up_ne hx) (by rw [o_upF, e1])⟩
      · refine r_ifne_f (q := 31) (q2 := 28) C (by decide) (by omega) dX9_tempo_25 (by decide) rfl ?_
        refine r_bipush (q := 30) C dX9_tempo_28 (by decide) rfl ?_
        exact r_iret C hr dX9_tempo_30 (by decide) (by decide) ⟨_, rfl, rfl, by rw [hs, if_pos ⟨br12, br22⟩], by rw [hs, if_pos ⟨br12, br22⟩]; rw [settle_n (by simp)]; exact oMc_no hH⟩
  · refine r_ifne_f (q := 11) (q2 := 9) C (by decide) (by omega) dX9_tempo_6 (by decide) rfl ?_
    refine r_iconst (q := 10) C dX9_tempo_9 rfl ?_
    exact r_iret C hr dX9_tempo_10 (by decide) (by decide) ⟨_, rfl, rfl, by rw [fTempo, if_neg br3], by rw [fTempo, if_neg br3]; rw [settle_n (by simp)]; exact oMc_no hH⟩
set_option maxRecDepth 20000 in
set_option maxHeartbeats 8000000 in
theorem c_X9_bow {T : oT} {σ : oM} {mC : Nat} (hM : oMm T mC) {Bd : Int} (hI : oI Bd (σ (mC + 1))) {Lh : List (Nat → Int)} (hH : oMH σ mC Lh) (h7 : σ mC 7 = 0 ∨ σ mC 7 = 1) {z v u w : Int} (hz : o_r z) (hv : o_r v) (hu : o_r u) (hw : o_r w) : MS yX9_bow cX9_bow 7 (some FieldType.int) 3 0 0 66 [og mC, oi z, oi v, oi u, oi w] T σ (oPs (fun zx σ2 => zx = (fBow (σ (mC + 1)) z v u w).1 ∧ oMc σ σ2 mC (fBow (σ (mC + 1)) z v u w).2 (settleL (fBow (σ (mC + 1)) z v u w).1 (σ mC 7) Lh (σ (mC + 1))) (σ mC 5)) T) := by
  have hMc := hM
  obtain ⟨hM0, hMr0, hMr1, hMr2, hMr3, hMr8, hMr9, hMr10, hMr11, hMr13, hMr14, hMr15, hMr16, hMr17, hMr18, hMr19, hMr20, hMk1, hMk2, hMk3, hMk4, hMk5, hMk6, hMk7, hMk8, hMk9, hMk10, hMk11, hMk12, hMk13, hMk14, hMk15, hMk16, hMT⟩ := hMc
  have hI0 := hI.2.1
  have hI1 := hI.2.2.1
  have hI2 := hI.2.2.2.1
  have hIn := oI_n hI
  have hIB := hI.1
  refine o_met (by decide +kernel) (Nat.le_of_ble_eq_true rfl) (fun p l ee s m args below meth c G b C hr hn => ?_)
  have C : oCx p s m args meth c G b RX9 cX9_bow 7 := C
  show oW p l ee ({ frames := 3, cells := 0, slots := 0, locals := 66 } : Room) s m args below meth c G b 7 0 0 (MQ below (o_Qc G b (oPs (fun zx σ2 => zx = (fBow (σ (mC + 1)) z v u w).1 ∧ oMc σ σ2 mC (fBow (σ (mC + 1)) z v u w).2 (settleL (fBow (σ (mC + 1)) z v u w).1 (σ mC 7) Lh (σ (mC + 1))) (σ mC 5)) T)) args s 0 0 (fun q => b ≤ q)) T σ 0 [some (og mC), some (oi z), some (oi v), some (oi u), some (oi w), none, none] []
  refine r_al0 (q := 1) C dX9_bow_0 rfl ?_
  refine r_il1 (q := 2) C dX9_bow_1 rfl ?_
  refine r_il3 (q := 3) C dX9_bow_2 rfl ?_
  refine r_callVb (q := 6) C (c_X9_isBar hM hI (by omega) (by omega)) m_X9_135 (by assumption) (by omega) dX9_bow_3 rfl rfl (by decide) (by decide) (Nat.le_of_ble_eq_true rfl) (fun br3 => ?_) (fun br3 => ?_)
  · refine r_ifeq_f (q := 18) (q2 := 9) C (by decide) (by omega) dX9_bow_6 (by decide) rfl ?_
    refine r_il2 (q := 10) C dX9_bow_9 rfl ?_
    refine r_iconst (q := 11) C dX9_bow_10 rfl ?_
    refine r_iconst (q := 12) C dX9_bow_11 rfl ?_
    refine r_callSb (q := 15) C (c_X9_in hv (by omega) (by omega)) m_X9_108 dX9_bow_12 rfl rfl (by decide) (by decide) (Nat.le_of_ble_eq_true rfl) (fun br12 => ?_) (fun br12 => ?_)
    · refine r_ifne_t (q := 20) C (by decide) (by omega) dX9_bow_15 (by decide) ?_
      obtain ⟨eN, bN, rfl, rfl, heN, heN6, hbN1, hbN2, hbN9⟩ := isBr_n hI br3
      have hIE := oI_b hI heN
      have hIb := hIE.1.2.2.2.2 bN hbN1 hbN2
      obtain ⟨iN, rfl⟩ : ∃ iN : Nat, v = (iN : Int) := ⟨v.toNat, by omega⟩
      have hs := fBow.eq_1 (σ (mC + 1)) (eN : Int) (iN : Int) (bN : Int) w
      rw [if_pos ⟨br3, br12⟩] at hs
      simp only [Int.toNat_natCast] at hs
      have hbw := hIb.2.2.2.2 iN (by omega)
      refine r_il4 (q := 22) C dX9_bow_20 rfl ?_
      refine r_iconst (q := 23) C dX9_bow_22 rfl ?_
      refine r_iconst (q := 24) C dX9_bow_23 rfl ?_
      refine r_callSb (q := 27) C (c_X9_in hw (by omega) (by omega)) m_X9_108 dX9_bow_24 rfl rfl (by decide) (by decide) (Nat.le_of_ble_eq_true rfl) (fun br24 => ?_) (fun br24 => ?_)
      · refine r_ifne_t (q := 33) C (by decide) (by omega) dX9_bow_27 (by decide) ?_
        rw [if_pos br24] at hs
        refine r_al0 (q := 34) C dX9_bow_33 rfl ?_
        refine r_callVv (q := 37) C (c_X9_keeps hM hH h7) m_X9_129 (by assumption) (by omega) dX9_bow_34 rfl rfl (by decide) (by decide) (Nat.le_of_ble_eq_true rfl) (fun σ2 hσ2 => ?_)
        have e1 := hσ2.2.1 (mC + 1) (by omega) (by omega)
        refine r_il1 (q := 38) C dX9_bow_37 rfl ?_
        refine r_il3 (q := 39) C dX9_bow_38 rfl ?_
        refine r_callS1 (q := 42) C (c_X9_placeOf) m_X9_132 dX9_bow_39 rfl rfl (by decide) (by decide) (Nat.le_of_ble_eq_true rfl) ?_
        refine r_iconst (q := 43) C dX9_bow_42 rfl ?_
        refine r_iadd (q := 44) C dX9_bow_43 rfl ?_
        refine r_il2 (q := 45) C dX9_bow_44 rfl ?_
        refine r_iadd (q := 46) C dX9_bow_45 rfl ?_
        refine r_is5 (q := 48) C dX9_bow_46 rfl (by decide) ?_
        refine r_al0 (q := 49) C dX9_bow_48 rfl ?_
        refine r_getR (q := 52) C f_X9_9 dX9_bow_49 rfl rfl (by assumption) (by assumption) (by omega) ?_
        refine r_il5 (q := 54) C dX9_bow_52 rfl ?_
        refine r_iald (q := 55) C ((194 + 813 * eN + 8 * bN + iN)) dX9_bow_54 rfl (by assumption) (by omega) (by omega) (by omega) (by decide) ?_
        rw [e1]
        refine r_is6 (q := 57) C dX9_bow_55 rfl (by decide) ?_
        refine r_al0 (q := 58) C dX9_bow_57 rfl ?_
        refine r_getR (q := 61) C f_X9_9 dX9_bow_58 rfl rfl (by assumption) (by assumption) (by omega) ?_
        refine r_il5 (q := 63) C dX9_bow_61 rfl ?_
        refine r_il4 (q := 65) C dX9_bow_63 rfl ?_
        refine r_iast (q := 66) C ((194 + 813 * eN + 8 * bN + iN)) dX9_bow_65 rfl (by assumption) (by omega) (by omega) (by omega) (by decide) ?_
        refine r_il6 (q := 68) C dX9_bow_66 rfl ?_
        exact r_iret C hr dX9_bow_68 (by decide) (by decide) ⟨_, rfl, rfl, by rw [hs], by rw [hs, settle_y (by omega)]; exact oMc_of hσ2 (fun x hx => o_up_ne hx) (by rw [o_upF, e1])⟩
      · refine r_ifne_f (q := 33) (q2 := 30) C (by decide) (by omega) dX9_bow_27 (by decide) rfl ?_
        refine r_bipush (q := 32) C dX9_bow_30 (by decide) rfl ?_
        exact r_iret C hr dX9_bow_32 (by decide) (by decide) ⟨_, rfl, rfl, by rw [hs, if_neg br24], by rw [hs, if_neg br24]; rw [settle_n (by simp)]; exact oMc_no hH⟩
    · refine r_ifne_f (q := 20) (q2 := 18) C (by decide) (by omega) dX9_bow_15 (by decide) rfl ?_
      refine r_iconst (q := 19) C dX9_bow_18 rfl ?_
      exact r_iret C hr dX9_bow_19 (by decide) (by decide) ⟨_, rfl, rfl, by rw [fBow, if_neg (fun hc => br12 hc.2)], by rw [fBow, if_neg (fun hc => br12 hc.2)]; rw [settle_n (by simp)]; exact oMc_no hH⟩
  · refine r_ifeq_t (q := 18) C (by decide) (by omega) dX9_bow_6 (by decide) ?_
    refine r_iconst (q := 19) C dX9_bow_18 rfl ?_
    exact r_iret C hr dX9_bow_19 (by decide) (by decide) ⟨_, rfl, rfl, by rw [fBow, if_neg (fun hc => br3 hc.1)], by rw [fBow, if_neg (fun hc => br3 hc.1)]; rw [settle_n (by simp)]; exact oMc_no hH⟩
set_option maxRecDepth 20000 in
set_option maxHeartbeats 8000000 in
theorem c_X9_seat {T : oT} {σ : oM} {mC : Nat} (hM : oMm T mC) {Bd : Int} (hI : oI Bd (σ (mC + 1))) {Lh : List (Nat → Int)} (hH : oMH σ mC Lh) (h7 : σ mC 7 = 0) {z v : Int} (hz : o_r z) (hv : o_r v) : MS yX9_seat cX9_seat 4 (some FieldType.int) 3 0 0 66 [og mC, oi z, oi v] T σ (oPs (fun zx σ2 => zx = (fSeat (σ (mC + 1)) Lh z v).1 ∧ oMc σ σ2 mC (fSeat (σ (mC + 1)) Lh z v).2.1 (fSeat (σ (mC + 1)) Lh z v).2.2 (σ mC 5)) T) := by
  have hMc := hM
  obtain ⟨hM0, hMr0, hMr1, hMr2, hMr3, hMr8, hMr9, hMr10, hMr11, hMr13, hMr14, hMr15, hMr16, hMr17, hMr18, hMr19, hMr20, hMk1, hMk2, hMk3, hMk4, hMk5, hMk6, hMk7, hMk8, hMk9, hMk10, hMk11, hMk12, hMk13, hMk14, hMk15, hMk16, hMT⟩ := hMc
  have hI0 := hI.2.1
  have hI1 := hI.2.2.1
  have hI2 := hI.2.2.2.1
  have hIn := oI_n hI
  have hIB := hI.1
  refine o_met (by decide +kernel) (Nat.le_of_ble_eq_true rfl) (fun p l ee s m args below meth c G b C hr hn => ?_)
  have C : oCx p s m args meth c G b RX9 cX9_seat 4 := C
  show oW p l ee ({ frames := 3, cells := 0, slots := 0, locals := 66 } : Room) s m args below meth c G b 4 0 0 (MQ below (o_Qc G b (oPs (fun zx σ2 => zx = (fSeat (σ (mC + 1)) Lh z v).1 ∧ oMc σ σ2 mC (fSeat (σ (mC + 1)) Lh z v).2.1 (fSeat (σ (mC + 1)) Lh z v).2.2 (σ mC 5)) T)) args s 0 0 (fun q => b ≤ q)) T σ 0 [some (og mC), some (oi z), some (oi v), none] []
  refine r_il1 (q := 1) C dX9_seat_0 rfl ?_
  refine r_callSb (q := 4) C (c_X9_isInstrument (by omega)) m_X9_186 dX9_seat_1 rfl rfl (by decide) (by decide) (Nat.le_of_ble_eq_true rfl) (fun br1 => ?_) (fun br1 => ?_)
  · refine r_ifne_t (q := 9) C (by decide) (by omega) dX9_seat_4 (by decide) ?_
    obtain ⟨iN, rfl⟩ : ∃ iN : Nat, z = (iN : Int) := ⟨z.toNat, by omega⟩
    have hs := fSeat.eq_1 (σ (mC + 1)) Lh (iN : Int) v
    rw [if_pos br1] at hs
    simp only [Int.toNat_natCast] at hs
    refine r_il2 (q := 10) C dX9_seat_9 rfl ?_
    refine r_iconst (q := 11) C dX9_seat_10 rfl ?_
    refine r_bipush (q := 13) C dX9_seat_11 (by decide) rfl ?_
    refine r_callSb (q := 16) C (c_X9_in hv (by omega) (by omega)) m_X9_108 dX9_seat_13 rfl rfl (by decide) (by decide) (Nat.le_of_ble_eq_true rfl) (fun br13 => ?_) (fun br13 => ?_)
    · refine r_ifne_t (q := 22) C (by decide) (by omega) dX9_seat_16 (by decide) ?_
      rw [if_pos br13] at hs
      refine r_al0 (q := 23) C dX9_seat_22 rfl ?_
      refine r_callVv (q := 26) C (c_X9_keeps hM hH (Or.inl h7)) m_X9_129 (by assumption) (by omega) dX9_seat_23 rfl rfl (by decide) (by decide) (Nat.le_of_ble_eq_true rfl) (fun σ2 hσ2 => ?_)
      rw [kept_0 h7] at hσ2
      have e1 := hσ2.2.1 (mC + 1) (by omega) (by omega)
      refine r_al0 (q := 27) C dX9_seat_26 rfl ?_
      refine r_getR (q := 30) C f_X9_9 dX9_seat_27 rfl rfl (by assumption) (by assumption) (by omega) ?_
      refine r_bipush (q := 32) C dX9_seat_30 (by decide) rfl ?_
      refine r_il1 (q := 33) C dX9_seat_32 rfl ?_
      refine r_iadd (q := 34) C dX9_seat_33 rfl ?_
      refine r_iald (q := 35) C ((11 + iN)) dX9_seat_34 rfl (by assumption) (by omega) (by omega) (by omega) (by decide) ?_
      rw [e1]
      refine r_is3 (q := 36) C dX9_seat_35 rfl (by decide) ?_
      refine r_al0 (q := 37) C dX9_seat_36 rfl ?_
      refine r_getR (q := 40) C f_X9_9 dX9_seat_37 rfl rfl (by assumption) (by assumption) (by omega) ?_
      refine r_bipush (q := 42) C dX9_seat_40 (by decide) rfl ?_
      refine r_il1 (q := 43) C dX9_seat_42 rfl ?_
      refine r_iadd (q := 44) C dX9_seat_43 rfl ?_
      refine r_il2 (q := 45) C dX9_seat_44 rfl ?_
      refine r_iast (q := 46) C ((11 + iN)) dX9_seat_45 rfl (by assumption) (by omega) (by omega) (by omega) (by decide) ?_
      refine r_il3 (q := 47) C dX9_seat_46 rfl ?_
      exact r_iret C hr dX9_seat_47 (by decide) (by decide) ⟨_, rfl, rfl, by rw [hs], by rw [hs]; exact oMc_of hσ2 (fun x hx => o_up_ne hx) (by rw [o_upF, e1])⟩
    · refine r_ifne_f (q := 22) (q2 := 19) C (by decide) (by omega) dX9_seat_16 (by decide) rfl ?_
      refine r_bipush (q := 21) C dX9_seat_19 (by decide) rfl ?_
      exact r_iret C hr dX9_seat_21 (by decide) (by decide) ⟨_, rfl, rfl, by rw [hs, if_neg br13], by rw [hs, if_neg br13]; exact oMc_no hH⟩
  · refine r_ifne_f (q := 9) (q2 := 7) C (by decide) (by omega) dX9_seat_4 (by decide) rfl ?_
    refine r_iconst (q := 8) C dX9_seat_7 rfl ?_
    exact r_iret C hr dX9_seat_8 (by decide) (by decide) ⟨_, rfl, rfl, by rw [fSeat, if_neg br1], by rw [fSeat, if_neg br1]; exact oMc_no hH⟩
set_option maxRecDepth 20000 in
set_option maxHeartbeats 8000000 in
theorem c_X9_pass {T : oT} {σ : oM} {mC : Nat} (hM : oMm T mC) {Bd : Int} (hI : oI Bd (σ (mC + 1))) {Lh : List (Nat → Int)} (hH : oMH σ mC Lh) (h7 : σ mC 7 = 0) {z : Int} (hz : o_r z) : MS yX9_pass cX9_pass 2 (some FieldType.int) 3 0 0 66 [og mC, oi z] T σ (oPs (fun zx σ2 => zx = (fPass (σ (mC + 1)) Lh z).1 ∧ oMc σ σ2 mC (fPass (σ (mC + 1)) Lh z).2.1 (fPass (σ (mC + 1)) Lh z).2.2 (σ mC 5)) T) := by
  have hMc := hM
  obtain ⟨hM0, hMr0, hMr1, hMr2, hMr3, hMr8, hMr9, hMr10, hMr11, hMr13, hMr14, hMr15, hMr16, hMr17, hMr18, hMr19, hMr20, hMk1, hMk2, hMk3, hMk4, hMk5, hMk6, hMk7, hMk8, hMk9, hMk10, hMk11, hMk12, hMk13, hMk14, hMk15, hMk16, hMT⟩ := hMc
  have hI0 := hI.2.1
  have hI1 := hI.2.2.1
  have hI2 := hI.2.2.2.1
  have hIn := oI_n hI
  have hIB := hI.1
  refine o_met (by decide +kernel) (Nat.le_of_ble_eq_true rfl) (fun p l ee s m args below meth c G b C hr hn => ?_)
  have C : oCx p s m args meth c G b RX9 cX9_pass 2 := C
  show oW p l ee ({ frames := 3, cells := 0, slots := 0, locals := 66 } : Room) s m args below meth c G b 2 0 0 (MQ below (o_Qc G b (oPs (fun zx σ2 => zx = (fPass (σ (mC + 1)) Lh z).1 ∧ oMc σ σ2 mC (fPass (σ (mC + 1)) Lh z).2.1 (fPass (σ (mC + 1)) Lh z).2.2 (σ mC 5)) T)) args s 0 0 (fun q => b ≤ q)) T σ 0 [some (og mC), some (oi z)] []
  have hs := fPass.eq_1 (σ (mC + 1)) Lh z
  refine r_il1 (q := 1) C dX9_pass_0 rfl ?_
  refine r_iconst (q := 2) C dX9_pass_1 rfl ?_
  refine r_sipush (q := 5) C dX9_pass_2 (by decide) rfl ?_
  refine r_callSb (q := 8) C (c_X9_in hz (by omega) (by omega)) m_X9_108 dX9_pass_5 rfl rfl (by decide) (by decide) (Nat.le_of_ble_eq_true rfl) (fun br5 => ?_) (fun br5 => ?_)
  · refine r_ifne_t (q := 14) C (by decide) (by omega) dX9_pass_8 (by decide) ?_
    rw [if_pos br5] at hs
    refine r_al0 (q := 15) C dX9_pass_14 rfl ?_
    refine r_getR (q := 18) C f_X9_9 dX9_pass_15 rfl rfl (by assumption) (by assumption) (by omega) ?_
    refine r_iconst (q := 19) C dX9_pass_18 rfl ?_
    refine r_iald (q := 20) C (2) dX9_pass_19 rfl (by assumption) (by omega) (by omega) (by omega) (by decide) ?_
    refine r_il1 (q := 21) C dX9_pass_20 rfl ?_
    refine r_iadd (q := 22) C dX9_pass_21 rfl ?_
    refine r_sipush (q := 25) C dX9_pass_22 (by decide) rfl ?_
    refine r_icle (q := 31) (q2 := 28) C (by omega) (by omega) dX9_pass_25 (by decide) rfl (fun br25 => ?_) (fun br25 => ?_)
    · rw [if_neg (by omega)] at hs
      refine r_al0 (q := 32) C dX9_pass_31 rfl ?_
      refine r_callVv (q := 35) C (c_X9_keeps hM hH (Or.inl h7)) m_X9_129 (by assumption) (by omega) dX9_pass_32 rfl rfl (by decide) (by decide) (Nat.le_of_ble_eq_true rfl) (fun σ2 hσ2 => ?_)
      rw [kept_0 h7] at hσ2
      have e1 := hσ2.2.1 (mC + 1) (by omega) (by omega)
      refine r_al0 (q := 36) C dX9_pass_35 rfl ?_
      refine r_getR (q := 39) C f_X9_9 dX9_pass_36 rfl rfl (by assumption) (by assumption) (by omega) ?_
      refine r_iconst (q := 40) C dX9_pass_39 rfl ?_
      refine r_dup2 (q := 41) C dX9_pass_40 rfl ?_
      refine r_iald (q := 42) C (2) dX9_pass_41 rfl (by assumption) (by omega) (by omega) (by omega) (by decide) ?_
      rw [e1]
      refine r_il1 (q := 43) C dX9_pass_42 rfl ?_
      refine r_iadd (q := 44) C dX9_pass_43 rfl ?_
      refine r_iast (q := 45) C (2) dX9_pass_44 rfl (by assumption) (by omega) (by omega) (by omega) (by decide) ?_
      refine r_al0 (q := 46) C dX9_pass_45 rfl ?_
      refine r_getR (q := 49) C f_X9_9 dX9_pass_46 rfl rfl (by assumption) (by assumption) (by omega) ?_
      refine r_iconst (q := 50) C dX9_pass_49 rfl ?_
      refine r_iald (q := 51) C (2) dX9_pass_50 rfl (by assumption) (by omega) (by omega) (by omega) (by decide) ?_
      rw [o_up_at]
      exact r_iret C hr dX9_pass_51 (by decide) (by decide) ⟨_, rfl, rfl, by rw [hs], by rw [hs]; exact oMc_of hσ2 (fun x hx => o_up_ne hx) (by rw [o_upF, e1])⟩
    · refine r_bipush (q := 30) C dX9_pass_28 (by decide) rfl ?_
      exact r_iret C hr dX9_pass_30 (by decide) (by decide) ⟨_, rfl, rfl, by rw [hs, if_pos (by omega)], by rw [hs, if_pos (by omega)]; exact oMc_no hH⟩
  · refine r_ifne_f (q := 14) (q2 := 11) C (by decide) (by omega) dX9_pass_8 (by decide) rfl ?_
    refine r_bipush (q := 13) C dX9_pass_11 (by decide) rfl ?_
    exact r_iret C hr dX9_pass_13 (by decide) (by decide) ⟨_, rfl, rfl, by rw [hs, if_neg br5], by rw [hs, if_neg br5]; exact oMc_no hH⟩
set_option maxRecDepth 20000 in
set_option maxHeartbeats 8000000 in
theorem c_X9_buy {T : oT} {σ : oM} {mC : Nat} (hM : oMm T mC) {Bd : Int} (hI : oI Bd (σ (mC + 1))) {Lh : List (Nat → Int)} (hH : oMH σ mC Lh) (h7 : σ mC 7 = 0) {z v w : Int} (hz : o_r z) (hv : o_r v) (hw : o_r w) : MS yX9_buy cX9_buy 4 (some FieldType.int) 3 0 0 66 [og mC, oi z, oi v, oi w] T σ (oPs (fun zx σ2 => zx = (fBuy (σ (mC + 1)) Lh z v w).1 ∧ oMc σ σ2 mC (fBuy (σ (mC + 1)) Lh z v w).2.1 (fBuy (σ (mC + 1)) Lh z v w).2.2 (σ mC 5)) T) := by
  have hMc := hM
  obtain ⟨hM0, hMr0, hMr1, hMr2, hMr3, hMr8, hMr9, hMr10, hMr11, hMr13, hMr14, hMr15, hMr16, hMr17, hMr18, hMr19, hMr20, hMk1, hMk2, hMk3, hMk4, hMk5, hMk6, hMk7, hMk8, hMk9, hMk10, hMk11, hMk12, hMk13, hMk14, hMk15, hMk16, hMT⟩ := hMc
  have hI0 := hI.2.1
  have hI1 := hI.2.2.1
  have hI2 := hI.2.2.2.1
  have hIn := oI_n hI
  have hIB := hI.1
  refine o_met (by decide +kernel) (Nat.le_of_ble_eq_true rfl) (fun p l ee s m args below meth c G b C hr hn => ?_)
  have C : oCx p s m args meth c G b RX9 cX9_buy 4 := C
  show oW p l ee ({ frames := 3, cells := 0, slots := 0, locals := 66 } : Room) s m args below meth c G b 4 0 0 (MQ below (o_Qc G b (oPs (fun zx σ2 => zx = (fBuy (σ (mC + 1)) Lh z v w).1 ∧ oMc σ σ2 mC (fBuy (σ (mC + 1)) Lh z v w).2.1 (fBuy (σ (mC + 1)) Lh z v w).2.2 (σ mC 5)) T)) args s 0 0 (fun q => b ≤ q)) T σ 0 [some (og mC), some (oi z), some (oi v), some (oi w)] []
  refine r_al0 (q := 1) C dX9_buy_0 rfl ?_
  refine r_il1 (q := 2) C dX9_buy_1 rfl ?_
  refine r_callVb (q := 5) C (c_X9_isEdition hM hI (by omega)) m_X9_112 (by assumption) (by omega) dX9_buy_2 rfl rfl (by decide) (by decide) (Nat.le_of_ble_eq_true rfl) (fun br2 => ?_) (fun br2 => ?_)
  · refine r_ifeq_f (q := 15) (q2 := 8) C (by decide) (by omega) dX9_buy_5 (by decide) rfl ?_
    refine r_il2 (q := 9) C dX9_buy_8 rfl ?_
    refine r_callSb (q := 12) C (c_X9_isInstrument (by omega)) m_X9_186 dX9_buy_9 rfl rfl (by decide) (by decide) (Nat.le_of_ble_eq_true rfl) (fun br9 => ?_) (fun br9 => ?_)
    · refine r_ifne_t (q := 17) C (by decide) (by omega) dX9_buy_12 (by decide) ?_
      obtain ⟨eN, rfl, heN, heN6⟩ := isEd_n hI br2
      have hIE := oI_b hI heN
      obtain ⟨iN, rfl⟩ : ∃ iN : Nat, v = (iN : Int) := ⟨v.toNat, by omega⟩
      have hs := fBuy.eq_1 (σ (mC + 1)) Lh (eN : Int) (iN : Int) w
      rw [if_pos ⟨br2, br9⟩] at hs
      simp only [Int.toNat_natCast] at hs
      have hcb := (hIE.1.2.2.2.1 iN (by omega)).1
      refine r_il3 (q := 18) C dX9_buy_17 rfl ?_
      refine r_iconst (q := 19) C dX9_buy_18 rfl ?_
      refine r_bipush (q := 21) C dX9_buy_19 (by decide) rfl ?_
      refine r_callSb (q := 24) C (c_X9_in hw (by omega) (by omega)) m_X9_108 dX9_buy_21 rfl rfl (by decide) (by decide) (Nat.le_of_ble_eq_true rfl) (fun br21 => ?_) (fun br21 => ?_)
      · refine r_ifne_t (q := 30) C (by decide) (by omega) dX9_buy_24 (by decide) ?_
        rw [if_pos br21] at hs
        refine r_al0 (q := 31) C dX9_buy_30 rfl ?_
        refine r_il1 (q := 32) C dX9_buy_31 rfl ?_
        refine r_il2 (q := 33) C dX9_buy_32 rfl ?_
        refine r_callV1 (q := 36) C (c_X9_bought (eN := eN) (iN := iN) hM (by omega) (by omega)) m_X9_120 (by assumption) (by omega) dX9_buy_33 rfl rfl (by decide) (by decide) (Nat.le_of_ble_eq_true rfl) ?_
        refine r_il3 (q := 37) C dX9_buy_36 rfl ?_
        refine r_iadd (q := 38) C dX9_buy_37 rfl ?_
        refine r_bipush (q := 40) C dX9_buy_38 (by decide) rfl ?_
        refine r_icle (q := 46) (q2 := 43) C (by omega) (by omega) dX9_buy_40 (by decide) rfl (fun br40 => ?_) (fun br40 => ?_)
        · rw [if_neg (by omega)] at hs
          refine r_al0 (q := 47) C dX9_buy_46 rfl ?_
          refine r_callVv (q := 50) C (c_X9_keeps hM hH (Or.inl h7)) m_X9_129 (by assumption) (by omega) dX9_buy_47 rfl rfl (by decide) (by decide) (Nat.le_of_ble_eq_true rfl) (fun σ2 hσ2 => ?_)
          rw [kept_0 h7] at hσ2
          have e1 := hσ2.2.1 (mC + 1) (by omega) (by omega)
          refine r_al0 (q := 51) C dX9_buy_50 rfl ?_
          refine r_getR (q := 54) C f_X9_9 dX9_buy_51 rfl rfl (by assumption) (by assumption) (by omega) ?_
          refine r_il1 (q := 55) C dX9_buy_54 rfl ?_
          refine r_iconst (q := 56) C dX9_buy_55 rfl ?_
          refine r_iconst (q := 57) C dX9_buy_56 rfl ?_
          refine r_il2 (q := 58) C dX9_buy_57 rfl ?_
          refine r_imul (q := 59) C dX9_buy_58 rfl ?_
          refine r_iadd (q := 60) C dX9_buy_59 rfl ?_
          refine r_callS1 (q := 63) C (c_X9_at) m_X9_105 dX9_buy_60 rfl rfl (by decide) (by decide) (Nat.le_of_ble_eq_true rfl) ?_
          refine r_dup2 (q := 64) C dX9_buy_63 rfl ?_
          refine r_iald (q := 65) C ((180 + 813 * eN + 3 * iN)) dX9_buy_64 rfl (by assumption) (by omega) (by omega) (by omega) (by decide) ?_
          rw [e1]
          refine r_il3 (q := 66) C dX9_buy_65 rfl ?_
          refine r_iadd (q := 67) C dX9_buy_66 rfl ?_
          refine r_iast (q := 68) C ((180 + 813 * eN + 3 * iN)) dX9_buy_67 rfl (by assumption) (by omega) (by omega) (by omega) (by decide) ?_
          refine r_al0 (q := 69) C dX9_buy_68 rfl ?_
          refine r_il1 (q := 70) C dX9_buy_69 rfl ?_
          refine r_il2 (q := 71) C dX9_buy_70 rfl ?_
          refine r_callV1 (q := 74) C (c_X9_bought (eN := eN) (iN := iN) hM (by omega) (by omega)) m_X9_120 (by assumption) (by omega) dX9_buy_71 rfl rfl (by decide) (by decide) (Nat.le_of_ble_eq_true rfl) ?_
          rw [o_up_at]
          exact r_iret C hr dX9_buy_74 (by decide) (by decide) ⟨_, rfl, rfl, by rw [hs], by rw [hs]; exact oMc_of hσ2 (fun x hx => o_up_ne hx) (by rw [o_upF, e1])⟩
        · refine r_bipush (q := 45) C dX9_buy_43 (by decide) rfl ?_
          exact r_iret C hr dX9_buy_45 (by decide) (by decide) ⟨_, rfl, rfl, by rw [hs, if_pos (by omega)], by rw [hs, if_pos (by omega)]; exact oMc_no hH⟩
      · refine r_ifne_f (q := 30) (q2 := 27) C (by decide) (by omega) dX9_buy_24 (by decide) rfl ?_
        refine r_bipush (q := 29) C dX9_buy_27 (by decide) rfl ?_
        exact r_iret C hr dX9_buy_29 (by decide) (by decide) ⟨_, rfl, rfl, by rw [hs, if_neg br21], by rw [hs, if_neg br21]; exact oMc_no hH⟩
    · refine r_ifne_f (q := 17) (q2 := 15) C (by decide) (by omega) dX9_buy_12 (by decide) rfl ?_
      refine r_iconst (q := 16) C dX9_buy_15 rfl ?_
      exact r_iret C hr dX9_buy_16 (by decide) (by decide) ⟨_, rfl, rfl, by rw [fBuy, if_neg (fun hc => br9 hc.2)], by rw [fBuy, if_neg (fun hc => br9 hc.2)]; exact oMc_no hH⟩
  · refine r_ifeq_t (q := 15) C (by decide) (by omega) dX9_buy_5 (by decide) ?_
    refine r_iconst (q := 16) C dX9_buy_15 rfl ?_
    exact r_iret C hr dX9_buy_16 (by decide) (by decide) ⟨_, rfl, rfl, by rw [fBuy, if_neg (fun hc => br2 hc.1)], by rw [fBuy, if_neg (fun hc => br2 hc.1)]; exact oMc_no hH⟩
set_option maxRecDepth 20000 in
set_option maxHeartbeats 8000000 in
theorem c_X9_rework {T : oT} {σ : oM} {mC : Nat} (hM : oMm T mC) {Bd : Int} (hI : oI Bd (σ (mC + 1))) {Lh : List (Nat → Int)} (hH : oMH σ mC Lh) (h7 : σ mC 7 = 0 ∨ σ mC 7 = 1) {z v w : Int} (hz : o_r z) (hv : o_r v) (hw : o_r w) : MS yX9_rework cX9_rework 5 (some FieldType.int) 3 0 0 66 [og mC, oi z, oi v, oi w] T σ (oPs (fun zx σ2 => zx = (fRew (σ (mC + 1)) (σ mC 5) z v w).1 ∧ oMc σ σ2 mC (fRew (σ (mC + 1)) (σ mC 5) z v w).2.1 (settleL (fRew (σ (mC + 1)) (σ mC 5) z v w).1 (σ mC 7) Lh (σ (mC + 1))) (fRew (σ (mC + 1)) (σ mC 5) z v w).2.2) T) := by
  have hMc := hM
  obtain ⟨hM0, hMr0, hMr1, hMr2, hMr3, hMr8, hMr9, hMr10, hMr11, hMr13, hMr14, hMr15, hMr16, hMr17, hMr18, hMr19, hMr20, hMk1, hMk2, hMk3, hMk4, hMk5, hMk6, hMk7, hMk8, hMk9, hMk10, hMk11, hMk12, hMk13, hMk14, hMk15, hMk16, hMT⟩ := hMc
  have hI0 := hI.2.1
  have hI1 := hI.2.2.1
  have hI2 := hI.2.2.2.1
  have hIn := oI_n hI
  have hIB := hI.1
  refine o_met (by decide +kernel) (Nat.le_of_ble_eq_true rfl) (fun p l ee s m args below meth c G b C hr hn => ?_)
  have C : oCx p s m args meth c G b RX9 cX9_rework 5 := C
  show oW p l ee ({ frames := 3, cells := 0, slots := 0, locals := 66 } : Room) s m args below meth c G b 5 0 0 (MQ below (o_Qc G b (oPs (fun zx σ2 => zx = (fRew (σ (mC + 1)) (σ mC 5) z v w).1 ∧ oMc σ σ2 mC (fRew (σ (mC + 1)) (σ mC 5) z v w).2.1 (settleL (fRew (σ (mC + 1)) (σ mC 5) z v w).1 (σ mC 7) Lh (σ (mC + 1))) (fRew (σ (mC + 1)) (σ mC 5) z v w).2.2) T)) args s 0 0 (fun q => b ≤ q)) T σ 0 [some (og mC), some (oi z), some (oi v), some (oi w), none] []
  refine r_al0 (q := 1) C dX9_rework_0 rfl ?_
  refine r_il1 (q := 2) C dX9_rework_1 rfl ?_
  refine r_il2 (q := 3) C dX9_rework_2 rfl ?_
  refine r_callVb (q := 6) C (c_X9_isBar hM hI (by omega) (by omega)) m_X9_135 (by assumption) (by omega) dX9_rework_3 rfl rfl (by decide) (by decide) (Nat.le_of_ble_eq_true rfl) (fun br3 => ?_) (fun br3 => ?_)
  · refine r_ifne_t (q := 11) C (by decide) (by omega) dX9_rework_6 (by decide) ?_
    obtain ⟨eN, bN, rfl, rfl, heN, heN6, hbN1, hbN2, hbN9⟩ := isBr_n hI br3
    have hIE := oI_b hI heN
    have hIb := hIE.1.2.2.2.2 bN hbN1 hbN2
    have hs := fRew.eq_1 (σ (mC + 1)) (σ mC 5) (eN : Int) (bN : Int) w
    rw [if_pos br3] at hs
    simp only [Int.toNat_natCast] at hs
    refine r_il3 (q := 12) C dX9_rework_11 rfl ?_
    refine r_iconst (q := 13) C dX9_rework_12 rfl ?_
    refine r_bipush (q := 15) C dX9_rework_13 (by decide) rfl ?_
    refine r_callSb (q := 18) C (c_X9_in hw (by omega) (by omega)) m_X9_108 dX9_rework_15 rfl rfl (by decide) (by decide) (Nat.le_of_ble_eq_true rfl) (fun br15 => ?_) (fun br15 => ?_)
    · refine r_ifne_t (q := 24) C (by decide) (by omega) dX9_rework_18 (by decide) ?_
      rw [if_pos br15] at hs
      have hbo : o_r (boughtF (σ (mC + 1)) eN) := by
        have h6 := sumF_in (f := fun ix => σ (mC + 1) (180 + 813 * eN + 3 * ix)) (n := 6) (lo := 0) (hi := 30) (fun j hj => (hIE.1.2.2.2.1 j hj).1)
        unfold boughtF
        omega
      refine r_al0 (q := 25) C dX9_rework_24 rfl ?_
      refine r_il1 (q := 26) C dX9_rework_25 rfl ?_
      refine r_callV1 (q := 29) C (c_X9_boughtAll (eN := eN) hM (by omega)) m_X9_139 (by assumption) (by omega) dX9_rework_26 rfl rfl (by decide) (by decide) (Nat.le_of_ble_eq_true rfl) ?_
      refine r_ifle (q := 38) (q2 := 32) C (by omega) dX9_rework_29 (by decide) rfl (fun br29 => ?_) (fun br29 => ?_)
      · rw [if_neg (by omega)] at hs
        obtain ⟨wN, hwn⟩ : ∃ wN : Nat, σ (mC + 1) (177 + 813 * eN) = (wN : Int) := ⟨(σ (mC + 1) (177 + 813 * eN)).toNat, by have := hIE.1.1; omega⟩
        have hw4 : wN < 4 := by have := hIE.1.1; omega
        rw [hwn, Int.toNat_natCast] at hs
        have hgb := (hI.2.2.2.2.1 wN hw4).2
        refine r_al0 (q := 39) C dX9_rework_38 rfl ?_
        refine r_callVv (q := 42) C (c_X9_keeps hM hH h7) m_X9_129 (by assumption) (by omega) dX9_rework_39 rfl rfl (by decide) (by decide) (Nat.le_of_ble_eq_true rfl) (fun σ2 hσ2 => ?_)
        have e1 := hσ2.2.1 (mC + 1) (by omega) (by omega)
        refine r_al0 (q := 43) C dX9_rework_42 rfl ?_
        refine r_getR (q := 46) C f_X9_9 dX9_rework_43 rfl rfl (by assumption) (by assumption) (by omega) ?_
        refine r_il1 (q := 47) C dX9_rework_46 rfl ?_
        refine r_iconst (q := 48) C dX9_rework_47 rfl ?_
        refine r_callS1 (q := 51) C (c_X9_at) m_X9_105 dX9_rework_48 rfl rfl (by decide) (by decide) (Nat.le_of_ble_eq_true rfl) ?_
        refine r_iald (q := 52) C ((177 + 813 * eN)) dX9_rework_51 rfl (by assumption) (by omega) (by omega) (by omega) (by decide) ?_
        rw [e1, hwn]
        refine r_is4 (q := 54) C dX9_rework_52 rfl (by decide) ?_
        refine r_al0 (q := 55) C dX9_rework_54 rfl ?_
        refine r_getR (q := 58) C f_X9_9 dX9_rework_55 rfl rfl (by assumption) (by assumption) (by omega) ?_
        refine r_bipush (q := 60) C dX9_rework_58 (by decide) rfl ?_
        refine r_il4 (q := 62) C dX9_rework_60 rfl ?_
        refine r_iadd (q := 63) C dX9_rework_62 rfl ?_
        refine r_dup2 (q := 64) C dX9_rework_63 rfl ?_
        refine r_iald (q := 65) C ((7 + wN)) dX9_rework_64 rfl (by assumption) (by omega) (by omega) (by omega) (by decide) ?_
        rw [e1]
        refine r_iconst (q := 66) C dX9_rework_65 rfl ?_
        refine r_iadd (q := 67) C dX9_rework_66 rfl ?_
        refine r_iast (q := 68) C ((7 + wN)) dX9_rework_67 rfl (by assumption) (by omega) (by omega) (by omega) (by decide) ?_
        refine r_al0 (q := 69) C dX9_rework_68 rfl ?_
        refine r_getR (q := 72) C f_X9_9 dX9_rework_69 rfl rfl (by assumption) (by assumption) (by omega) ?_
        refine r_il1 (q := 73) C dX9_rework_72 rfl ?_
        refine r_il2 (q := 74) C dX9_rework_73 rfl ?_
        refine r_callS1 (q := 77) C (c_X9_placeOf) m_X9_132 dX9_rework_74 rfl rfl (by decide) (by decide) (Nat.le_of_ble_eq_true rfl) ?_
        refine r_iconst (q := 78) C dX9_rework_77 rfl ?_
        refine r_iadd (q := 79) C dX9_rework_78 rfl ?_
        refine r_al0 (q := 80) C dX9_rework_79 rfl ?_
        refine r_getR (q := 83) C f_X9_9 dX9_rework_80 rfl rfl (by assumption) (by assumption) (by omega) ?_
        refine r_bipush (q := 85) C dX9_rework_83 (by decide) rfl ?_
        refine r_il4 (q := 87) C dX9_rework_85 rfl ?_
        refine r_iadd (q := 88) C dX9_rework_87 rfl ?_
        refine r_iald (q := 89) C ((7 + wN)) dX9_rework_88 rfl (by assumption) (by omega) (by omega) (by omega) (by decide) ?_
        rw [o_up_at]
        refine r_iast (q := 90) C ((191 + 813 * eN + 8 * bN)) dX9_rework_89 rfl (by assumption) (by omega) (by omega) (by omega) (by decide) ?_
        refine r_al0 (q := 91) C dX9_rework_90 rfl ?_
        refine r_getR (q := 94) C f_X9_9 dX9_rework_91 rfl rfl (by assumption) (by assumption) (by omega) ?_
        refine r_il1 (q := 95) C dX9_rework_94 rfl ?_
        refine r_il2 (q := 96) C dX9_rework_95 rfl ?_
        refine r_callS1 (q := 99) C (c_X9_placeOf) m_X9_132 dX9_rework_96 rfl rfl (by decide) (by decide) (Nat.le_of_ble_eq_true rfl) ?_
        refine r_iconst (q := 100) C dX9_rework_99 rfl ?_
        refine r_iadd (q := 101) C dX9_rework_100 rfl ?_
        refine r_il3 (q := 102) C dX9_rework_101 rfl ?_
        refine r_iast (q := 103) C ((192 + 813 * eN + 8 * bN)) dX9_rework_102 rfl (by assumption) (by omega) (by omega) (by omega) (by decide) ?_
        refine r_al0 (q := 104) C dX9_rework_103 rfl ?_
        refine r_getR (q := 107) C f_X9_9 dX9_rework_104 rfl rfl (by assumption) (by assumption) (by omega) ?_
        refine r_bipush (q := 109) C dX9_rework_107 (by decide) rfl ?_
        refine r_il4 (q := 111) C dX9_rework_109 rfl ?_
        refine r_iadd (q := 112) C dX9_rework_111 rfl ?_
        refine r_iald (q := 113) C ((7 + wN)) dX9_rework_112 rfl (by assumption) (by omega) (by omega) (by omega) (by decide) ?_
        rw [o_up_nj (by omega), o_up_nj (by omega), o_up_at]
        exact r_iret C hr dX9_rework_113 (by decide) (by decide) ⟨_, rfl, rfl, by rw [hs], by rw [hs, settle_y (by show 0 ≤ σ (mC + 1) (7 + wN) + 1 ∨ _; omega)]; exact oMc_of hσ2 (fun x hx => by rw [o_up_ne hx, o_up_ne hx, o_up_ne hx]) (by rw [o_upF, o_upF, o_upF, e1])⟩
      · refine r_al0 (q := 33) C dX9_rework_32 rfl ?_
        refine r_iconst (q := 34) C dX9_rework_33 rfl ?_
        refine r_callVs (q := 37) C (c_X9_refuses hM) m_X9_142 (by assumption) (by omega) dX9_rework_34 rfl rfl (by decide) (by decide) (Nat.le_of_ble_eq_true rfl) (fun z2 σ2 hσ2 => ?_)
        refine r_iret C hr dX9_rework_37 (by decide) (by decide) ?_
        obtain ⟨rfl, rfl⟩ := hσ2
        exact ⟨_, rfl, rfl, by rw [hs, if_pos (by omega)], by rw [hs, if_pos (by omega), settle_n (by simp)]; exact oMc_re hH⟩
    · refine r_ifne_f (q := 24) (q2 := 21) C (by decide) (by omega) dX9_rework_18 (by decide) rfl ?_
      refine r_bipush (q := 23) C dX9_rework_21 (by decide) rfl ?_
      exact r_iret C hr dX9_rework_23 (by decide) (by decide) ⟨_, rfl, rfl, by rw [hs, if_neg br15], by rw [hs, if_neg br15]; rw [settle_n (by simp)]; exact oMc_no hH⟩
  · refine r_ifne_f (q := 11) (q2 := 9) C (by decide) (by omega) dX9_rework_6 (by decide) rfl ?_
    refine r_iconst (q := 10) C dX9_rework_9 rfl ?_
    exact r_iret C hr dX9_rework_10 (by decide) (by decide) ⟨_, rfl, rfl, by rw [fRew, if_neg br3], by rw [fRew, if_neg br3]; rw [settle_n (by simp)]; exact oMc_no hH⟩
