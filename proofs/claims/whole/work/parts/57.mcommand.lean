theorem dgT_e {f : Nat → Int} {nI mx : Nat} {s : oSt} : ((dgT f nI mx (s.1, s.2.1, [])).1, (dgT f nI mx (s.1, s.2.1, [])).2.1, s.2.2 ++ [if s.2.1 = true ∧ isDg f nI s.1 then (dgP f nI mx s.1 0).2 else 0]) = dgT f nI mx s := by
  unfold dgT
  by_cases hc : s.2.1 = true ∧ isDg f nI s.1
  · rw [if_pos hc, if_pos hc, if_pos hc]
  · rw [if_neg hc, if_neg hc, if_neg hc]
theorem tkT_e {f : Nat → Int} {nI : Nat} {c : Int} {s : oSt} : ((tkT f nI c (s.1, s.2.1, [])).1, (tkT f nI c (s.1, s.2.1, [])).2.1, s.2.2) = tkT f nI c s := by
  unfold tkT
  by_cases hc : s.2.1 = true ∧ s.1 < nI ∧ f s.1 = c
  · rw [if_pos hc, if_pos hc]
  · rw [if_neg hc, if_neg hc]
theorem dgT_p {f : Nat → Int} {nI mx : Nat} {s : oSt} (h : s.1 ≤ 60) (hn : nI ≤ 60) : (dgT f nI mx s).1 ≤ 60 := by
  unfold dgT
  by_cases hc : s.2.1 = true ∧ isDg f nI s.1
  · rw [if_pos hc]
    have h1 := (dgP_le (f := f) (nI := nI) mx s.1 0).2 (Nat.le_of_lt hc.2.1)
    show (dgP f nI mx s.1 0).1 ≤ 60
    omega
  · rw [if_neg hc]
    exact h
theorem tkT_p {f : Nat → Int} {nI : Nat} {c : Int} {s : oSt} (h : s.1 ≤ 60) (hn : nI ≤ 60) : (tkT f nI c s).1 ≤ 60 := by
  unfold tkT
  by_cases hc : s.2.1 = true ∧ s.1 < nI ∧ f s.1 = c
  · rw [if_pos hc]
    show s.1 + 1 ≤ 60
    have := hc.2.1
    omega
  · rw [if_neg hc]
    exact h
set_option maxRecDepth 20000 in
set_option maxHeartbeats 8000000 in
theorem c_X9_digit {T : oT} {σ : oM} {mC : Nat} (hM : oMm T mC) {nI kc : Nat} {f : Nat → Int} {σ0 : oM} {s0 : oSt} (hi0 : oMi σ0 mC nI f) (hq : oMq σ0 σ mC kc s0) (hkc : σ0 mC 23 = (kc : Int)) (hk60 : kc < 60) (hs5 : s0.2.2.length < 5) (hp60 : s0.1 ≤ 60) : MS yX9_digit cX9_digit 1 none 2 0 0 45 [og mC] T σ (oPv (fun σ2 => oMq σ0 σ2 mC kc (dgT f nI 1 s0)) T) := by
  have hMc := hM
  obtain ⟨hM0, hMr0, hMr1, hMr2, hMr3, hMr8, hMr9, hMr10, hMr11, hMr13, hMr14, hMr15, hMr16, hMr17, hMr18, hMr19, hMr20, hMk1, hMk2, hMk3, hMk4, hMk5, hMk6, hMk7, hMk8, hMk9, hMk10, hMk11, hMk12, hMk13, hMk14, hMk15, hMk16, hMT⟩ := hMc
  refine o_met (by decide +kernel) (Nat.le_of_ble_eq_true rfl) (fun p l ee s m args below meth c G b C hr hn => ?_)
  have C : oCx p s m args meth c G b RX9 cX9_digit 1 := C
  show oW p l ee ({ frames := 2, cells := 0, slots := 0, locals := 45 } : Room) s m args below meth c G b 1 0 0 (MQ below (o_Qc G b (oPv (fun σ2 => oMq σ0 σ2 mC kc (dgT f nI 1 s0)) T)) args s 0 0 (fun q => b ≤ q)) T σ 0 [some (og mC)] []
  refine r_al0 (q := 1) C dX9_digit_0 rfl ?_
  refine r_al0 (q := 2) C dX9_digit_1 rfl ?_
  refine r_iconst (q := 3) C dX9_digit_2 rfl ?_
  refine r_callVs (q := 6) C (c_X9_digits (px := s0.1) (ok := s0.2.1) (mx := 1) hM (oMi_q hi0 hq) hq.1 hq.2.1 hp60 (by omega)) m_X9_229 (by assumption) (by omega) dX9_digit_3 rfl rfl (by decide) (by decide) (Nat.le_of_ble_eq_true rfl) (fun z2 σ2 hσ2 => ?_)
  obtain ⟨hz2, hs2⟩ := hσ2
  have hq2 := oMq_st (px := (dgT f nI 1 (s0.1, s0.2.1, [])).1) (ok := (dgT f nI 1 (s0.1, s0.2.1, [])).2.1) hq
  rw [← hs2] at hq2
  have hq3 := oMq_lay (v := z2) hq2
  refine r_callVv (q := 9) C (c_X9_lays (kc := kc) (an := s0.2.2.length) (v := z2) hM (by rw [hq2.2.2.2.1 23 (by decide) (by decide) (by decide)]; exact hkc) hq2.2.2.1 (by omega)) m_X9_232 (by assumption) (by omega) dX9_digit_6 rfl rfl (by decide) (by decide) (Nat.le_of_ble_eq_true rfl) (fun σ3 hσ3 => ?_)
  exact r_vret C hr dX9_digit_9 (by decide) (by decide) ⟨rfl, rfl, by rw [hσ3, ← dgT_e, ← hz2]; exact hq3⟩
set_option maxRecDepth 20000 in
set_option maxHeartbeats 8000000 in
theorem c_X9_number {T : oT} {σ : oM} {mC : Nat} (hM : oMm T mC) {nI kc : Nat} {f : Nat → Int} {σ0 : oM} {s0 : oSt} (hi0 : oMi σ0 mC nI f) (hq : oMq σ0 σ mC kc s0) (hkc : σ0 mC 23 = (kc : Int)) (hk60 : kc < 60) (hs5 : s0.2.2.length < 5) (hp60 : s0.1 ≤ 60) : MS yX9_number cX9_number 1 none 2 0 0 45 [og mC] T σ (oPv (fun σ2 => oMq σ0 σ2 mC kc (dgT f nI 4 s0)) T) := by
  have hMc := hM
  obtain ⟨hM0, hMr0, hMr1, hMr2, hMr3, hMr8, hMr9, hMr10, hMr11, hMr13, hMr14, hMr15, hMr16, hMr17, hMr18, hMr19, hMr20, hMk1, hMk2, hMk3, hMk4, hMk5, hMk6, hMk7, hMk8, hMk9, hMk10, hMk11, hMk12, hMk13, hMk14, hMk15, hMk16, hMT⟩ := hMc
  refine o_met (by decide +kernel) (Nat.le_of_ble_eq_true rfl) (fun p l ee s m args below meth c G b C hr hn => ?_)
  have C : oCx p s m args meth c G b RX9 cX9_number 1 := C
  show oW p l ee ({ frames := 2, cells := 0, slots := 0, locals := 45 } : Room) s m args below meth c G b 1 0 0 (MQ below (o_Qc G b (oPv (fun σ2 => oMq σ0 σ2 mC kc (dgT f nI 4 s0)) T)) args s 0 0 (fun q => b ≤ q)) T σ 0 [some (og mC)] []
  refine r_al0 (q := 1) C dX9_number_0 rfl ?_
  refine r_al0 (q := 2) C dX9_number_1 rfl ?_
  refine r_iconst (q := 3) C dX9_number_2 rfl ?_
  refine r_callVs (q := 6) C (c_X9_digits (px := s0.1) (ok := s0.2.1) (mx := 4) hM (oMi_q hi0 hq) hq.1 hq.2.1 hp60 (by omega)) m_X9_229 (by assumption) (by omega) dX9_number_3 rfl rfl (by decide) (by decide) (Nat.le_of_ble_eq_true rfl) (fun z2 σ2 hσ2 => ?_)
  obtain ⟨hz2, hs2⟩ := hσ2
  have hq2 := oMq_st (px := (dgT f nI 4 (s0.1, s0.2.1, [])).1) (ok := (dgT f nI 4 (s0.1, s0.2.1, [])).2.1) hq
  rw [← hs2] at hq2
  have hq3 := oMq_lay (v := z2) hq2
  refine r_callVv (q := 9) C (c_X9_lays (kc := kc) (an := s0.2.2.length) (v := z2) hM (by rw [hq2.2.2.2.1 23 (by decide) (by decide) (by decide)]; exact hkc) hq2.2.2.1 (by omega)) m_X9_232 (by assumption) (by omega) dX9_number_6 rfl rfl (by decide) (by decide) (Nat.le_of_ble_eq_true rfl) (fun σ3 hσ3 => ?_)
  exact r_vret C hr dX9_number_9 (by decide) (by decide) ⟨rfl, rfl, by rw [hσ3, ← dgT_e, ← hz2]; exact hq3⟩
set_option maxRecDepth 20000 in
set_option maxHeartbeats 8000000 in
theorem c_X9_digitBehind {T : oT} {σ : oM} {mC : Nat} (hM : oMm T mC) {nI kc : Nat} {f : Nat → Int} {σ0 : oM} {s0 : oSt} (hi0 : oMi σ0 mC nI f) (hq : oMq σ0 σ mC kc s0) (hkc : σ0 mC 23 = (kc : Int)) (hk60 : kc < 60) (hs5 : s0.2.2.length < 5) (hp60 : s0.1 ≤ 60) {cx : Int} (hcx : 0 ≤ cx ∧ cx ≤ 65535) : MS yX9_digitBehind cX9_digitBehind 2 none 3 0 0 65 [og mC, oi cx] T σ (oPv (fun σ2 => oMq σ0 σ2 mC kc (dgT f nI 1 (tkT f nI cx s0))) T) := by
  have hMc := hM
  obtain ⟨hM0, hMr0, hMr1, hMr2, hMr3, hMr8, hMr9, hMr10, hMr11, hMr13, hMr14, hMr15, hMr16, hMr17, hMr18, hMr19, hMr20, hMk1, hMk2, hMk3, hMk4, hMk5, hMk6, hMk7, hMk8, hMk9, hMk10, hMk11, hMk12, hMk13, hMk14, hMk15, hMk16, hMT⟩ := hMc
  refine o_met (by decide +kernel) (Nat.le_of_ble_eq_true rfl) (fun p l ee s m args below meth c G b C hr hn => ?_)
  have C : oCx p s m args meth c G b RX9 cX9_digitBehind 2 := C
  show oW p l ee ({ frames := 3, cells := 0, slots := 0, locals := 65 } : Room) s m args below meth c G b 2 0 0 (MQ below (o_Qc G b (oPv (fun σ2 => oMq σ0 σ2 mC kc (dgT f nI 1 (tkT f nI cx s0))) T)) args s 0 0 (fun q => b ≤ q)) T σ 0 [some (og mC), some (oi cx)] []
  refine r_al0 (q := 1) C dX9_digitBehind_0 rfl ?_
  refine r_il1 (q := 2) C dX9_digitBehind_1 rfl ?_
  refine r_callVv (q := 5) C (c_X9_takes (px := s0.1) (ok := s0.2.1) (cx := cx) hM (oMi_q hi0 hq) hq.1 hq.2.1 hp60 hcx) m_X9_236 (by assumption) (by omega) dX9_digitBehind_2 rfl rfl (by decide) (by decide) (Nat.le_of_ble_eq_true rfl) (fun σ2 hσ2 => ?_)
  have hq2 := oMq_st (px := (tkT f nI cx (s0.1, s0.2.1, [])).1) (ok := (tkT f nI cx (s0.1, s0.2.1, [])).2.1) hq
  rw [← hσ2, tkT_e] at hq2
  refine r_al0 (q := 6) C dX9_digitBehind_5 rfl ?_
  refine r_callVv (q := 9) C (c_X9_digit (s0 := tkT f nI cx s0) hM hi0 hq2 hkc hk60 (by rw [tkT_l]; exact hs5) (tkT_p hp60 hi0.2.1)) m_X9_241 (by assumption) (by omega) dX9_digitBehind_6 rfl rfl (by decide) (by decide) (Nat.le_of_ble_eq_true rfl) (fun σ3 hσ3 => ?_)
  exact r_vret C hr dX9_digitBehind_9 (by decide) (by decide) ⟨rfl, rfl, hσ3⟩
set_option maxRecDepth 20000 in
set_option maxHeartbeats 8000000 in
theorem c_X9_numberBehind {T : oT} {σ : oM} {mC : Nat} (hM : oMm T mC) {nI kc : Nat} {f : Nat → Int} {σ0 : oM} {s0 : oSt} (hi0 : oMi σ0 mC nI f) (hq : oMq σ0 σ mC kc s0) (hkc : σ0 mC 23 = (kc : Int)) (hk60 : kc < 60) (hs5 : s0.2.2.length < 5) (hp60 : s0.1 ≤ 60) {cx : Int} (hcx : 0 ≤ cx ∧ cx ≤ 65535) : MS yX9_numberBehind cX9_numberBehind 2 none 3 0 0 65 [og mC, oi cx] T σ (oPv (fun σ2 => oMq σ0 σ2 mC kc (dgT f nI 4 (tkT f nI cx s0))) T) := by
  have hMc := hM
  obtain ⟨hM0, hMr0, hMr1, hMr2, hMr3, hMr8, hMr9, hMr10, hMr11, hMr13, hMr14, hMr15, hMr16, hMr17, hMr18, hMr19, hMr20, hMk1, hMk2, hMk3, hMk4, hMk5, hMk6, hMk7, hMk8, hMk9, hMk10, hMk11, hMk12, hMk13, hMk14, hMk15, hMk16, hMT⟩ := hMc
  refine o_met (by decide +kernel) (Nat.le_of_ble_eq_true rfl) (fun p l ee s m args below meth c G b C hr hn => ?_)
  have C : oCx p s m args meth c G b RX9 cX9_numberBehind 2 := C
  show oW p l ee ({ frames := 3, cells := 0, slots := 0, locals := 65 } : Room) s m args below meth c G b 2 0 0 (MQ below (o_Qc G b (oPv (fun σ2 => oMq σ0 σ2 mC kc (dgT f nI 4 (tkT f nI cx s0))) T)) args s 0 0 (fun q => b ≤ q)) T σ 0 [some (og mC), some (oi cx)] []
  refine r_al0 (q := 1) C dX9_numberBehind_0 rfl ?_
  refine r_il1 (q := 2) C dX9_numberBehind_1 rfl ?_
  refine r_callVv (q := 5) C (c_X9_takes (px := s0.1) (ok := s0.2.1) (cx := cx) hM (oMi_q hi0 hq) hq.1 hq.2.1 hp60 hcx) m_X9_236 (by assumption) (by omega) dX9_numberBehind_2 rfl rfl (by decide) (by decide) (Nat.le_of_ble_eq_true rfl) (fun σ2 hσ2 => ?_)
  have hq2 := oMq_st (px := (tkT f nI cx (s0.1, s0.2.1, [])).1) (ok := (tkT f nI cx (s0.1, s0.2.1, [])).2.1) hq
  rw [← hσ2, tkT_e] at hq2
  refine r_al0 (q := 6) C dX9_numberBehind_5 rfl ?_
  refine r_callVv (q := 9) C (c_X9_number (s0 := tkT f nI cx s0) hM hi0 hq2 hkc hk60 (by rw [tkT_l]; exact hs5) (tkT_p hp60 hi0.2.1)) m_X9_239 (by assumption) (by omega) dX9_numberBehind_6 rfl rfl (by decide) (by decide) (Nat.le_of_ble_eq_true rfl) (fun σ3 hσ3 => ?_)
  exact r_vret C hr dX9_numberBehind_9 (by decide) (by decide) ⟨rfl, rfl, hσ3⟩
def oMw (σ σ2 : oM) (mC : Nat) : Prop := (∀ x, x ≠ mC → x ≠ mC + 15 → x ≠ mC + 16 → σ2 x = σ x) ∧ ∀ k, k ≠ 22 → k ≠ 23 → k ≠ 24 → k ≠ 27 → σ2 mC k = σ mC k
theorem oMw_tr {σ σ1 σ2 : oM} {mC : Nat} (h1 : oMw σ σ1 mC) (h2 : oMw σ1 σ2 mC) : oMw σ σ2 mC := ⟨fun x a1x a2x a3x => (h2.1 x a1x a2x a3x).trans (h1.1 x a1x a2x a3x), fun k a1x a2x a3x a4x => (h2.2 k a1x a2x a3x a4x).trans (h1.2 k a1x a2x a3x a4x)⟩
/-- a command read at place px as number kc -/
def oMd (σ σ2 : oM) (mC nI px kc : Nat) (f : Nat → Int) : Prop := oMw σ σ2 mC ∧ σ2 mC 22 = ((pcP f nI px).1 : Int) ∧ ((pcP f nI px).2 = none → σ2 mC 27 = 1) ∧ ∀ c, (pcP f nI px).2 = some c → σ2 mC 27 = 0 ∧ σ2 mC 23 = (kc : Int) + 1 ∧ σ2 (mC + 15) kc = c.1 ∧ (∀ (j : Nat) (v : Int), c.2[j]? = some v → σ2 (mC + 16) (5 * kc + j) = v) ∧ (∀ j, j < kc → σ2 (mC + 15) j = σ (mC + 15) j) ∧ ∀ j, j < 5 * kc → σ2 (mC + 16) j = σ (mC + 16) j
theorem oMd_bad {σ : oM} {mC nI px kc : Nat} {f : Nat → Int} (hpl : σ mC 22 = (px : Int)) (h : pcP f nI px = (px, none)) : oMd σ (o_up (o_up σ mC 24 0) mC 27 1) mC nI px kc f := by
  refine ⟨⟨fun x a1x _ _ => by rw [o_up_ne a1x, o_up_ne a1x], fun k _ _ a3x a4x => by rw [o_up_nj (Or.inr a4x), o_up_nj (Or.inr a3x)]⟩, by rw [h, o_up_nj (Or.inr (by decide)), o_up_nj (Or.inr (by decide))]; exact hpl, fun _ => o_up_at, fun c hc => by rw [h] at hc; cases hc⟩
def wrd0 (σ : oM) (mC kc px : Nat) (cv : Int) : oM := o_up (o_up (o_up (o_up σ mC 24 0) mC 27 0) (mC + 15) kc cv) mC 22 ((px : Int) + 1)
theorem wrd0_q {σ : oM} {mC kc px : Nat} {cv : Int} : oMq (wrd0 σ mC kc px cv) (wrd0 σ mC kc px cv) mC kc (px + 1, true, []) := by
  refine ⟨?_, ?_, ?_, fun _ _ _ _ => rfl, fun j v hv => ?_, fun _ _ => rfl, fun _ _ _ => rfl⟩
  · unfold wrd0
    rw [o_up_at]
    rfl
  · unfold wrd0
    rw [o_up_nj (Or.inr (by decide)), o_up_ne (by omega), o_up_at]
    rfl
  · unfold wrd0
    rw [o_up_nj (Or.inr (by decide)), o_up_ne (by omega), o_up_nj (Or.inr (by decide)), o_up_at]
    rfl
  · have hv2 : ([] : List Int)[j]? = some v := hv
    simp at hv2
theorem oMd_end {σ σ3 : oM} {mC nI px kc : Nat} {f : Nat → Int} {cv : Int} {s : oSt} (hpx : px < nI) (hcv : f px = cv) (hix : formIx cv < 7) (hs : s = prM f nI (o_sch.getD (formIx cv) []) (px + 1, true, [])) (hq : oMq (wrd0 σ mC kc px cv) σ3 mC kc s) : oMd σ (o_up σ3 mC 23 ((kc : Int) + 1)) mC nI px kc f := by
  have hpc : pcP f nI px = ((prP f nI (o_sch.getD (formIx cv) []) (px + 1) []).1, (prP f nI (o_sch.getD (formIx cv) []) (px + 1) []).2.map (fun ns => (f px, ns))) := by rw [pcP, hcv, if_pos ⟨hpx, hix⟩]
  have hm := prM_ok (f := f) (nI := nI) (o_sch.getD (formIx cv) []) (px + 1) []
  rw [← hs] at hm
  obtain ⟨q1, q2, q3, q4, q5, q6, q7⟩ := hq
  have hw : oMw σ (o_up σ3 mC 23 ((kc : Int) + 1)) mC := ⟨fun x a1x a2x a3x => by
    rw [o_up_ne a1x, q7 x a1x a3x]
    unfold wrd0
    rw [o_up_ne a1x, o_up_ne a2x, o_up_ne a1x, o_up_ne a1x], fun k a1x a2x a3x a4x => by
    rw [o_up_nj (Or.inr a2x), q4 k a1x a3x a4x]
    unfold wrd0
    rw [o_up_nj (Or.inr a1x), o_up_ne (by omega), o_up_nj (Or.inr a4x), o_up_nj (Or.inr a3x)]⟩
  rw [oMd, hpc]
  cases hr2 : (prP f nI (o_sch.getD (formIx cv) []) (px + 1) []).2 with
  | none =>
    rw [hr2] at hm
    have hm1 : s.1 = (prP f nI (o_sch.getD (formIx cv) []) (px + 1) []).1 ∧ s.2.1 = false := hm
    refine ⟨hw, ?_, fun _ => ?_, fun c hc => by cases hc⟩
    · rw [o_up_nj (Or.inr (by decide)), q1, hm1.1]
    · rw [o_up_nj (Or.inr (by decide)), q2, hm1.2]
      rfl
  | some ms =>
    rw [hr2] at hm
    have hm1 : s = ((prP f nI (o_sch.getD (formIx cv) []) (px + 1) []).1, true, ms) := hm
    refine ⟨hw, ?_, (fun hc => by cases hc), fun c hc => ?_⟩
    · rw [o_up_nj (Or.inr (by decide)), q1, hm1]
    · have hc2 : (f px, ms) = c := Option.some.inj hc
      rw [← hc2]
      refine ⟨by rw [o_up_nj (Or.inr (by decide)), q2, hm1]; rfl, o_up_at, ?_, fun j v hv => ?_, fun j hj => ?_, fun j hj => ?_⟩
      · rw [o_up_ne (by omega), q7 (mC + 15) (by omega) (by omega)]
        unfold wrd0
        rw [o_up_ne (by omega), o_up_at]
        exact hcv.symm
      · rw [o_up_ne (by omega)]
        exact q5 j v (by rw [hm1]; exact hv)
      · rw [o_up_ne (by omega), q7 (mC + 15) (by omega) (by omega)]
        unfold wrd0
        rw [o_up_ne (by omega), o_up_nj (Or.inr (by omega)), o_up_ne (by omega), o_up_ne (by omega)]
      · rw [o_up_ne (by omega), q6 j hj]
        unfold wrd0
        rw [o_up_ne (by omega), o_up_ne (by omega), o_up_ne (by omega), o_up_ne (by omega)]
set_option maxRecDepth 20000 in
set_option maxHeartbeats 8000000 in
theorem c_X9_command {T : oT} {σ : oM} {mC : Nat} (hM : oMm T mC) {nI px kc : Nat} {f : Nat → Int} (hi : oMi σ mC nI f) (hpl : σ mC 22 = (px : Int)) (hfl : σ mC 27 = flB true) (hkc : σ mC 23 = (kc : Int)) (hk60 : kc < 60) (hpxn : px ≤ nI) : MS yX9_command cX9_command 2 none 4 0 0 86 [og mC] T σ (oPv (fun σ2 => oMd σ σ2 mC nI px kc f) T) := by
  have hMc := hM
  obtain ⟨hM0, hMr0, hMr1, hMr2, hMr3, hMr8, hMr9, hMr10, hMr11, hMr13, hMr14, hMr15, hMr16, hMr17, hMr18, hMr19, hMr20, hMk1, hMk2, hMk3, hMk4, hMk5, hMk6, hMk7, hMk8, hMk9, hMk10, hMk11, hMk12, hMk13, hMk14, hMk15, hMk16, hMT⟩ := hMc
  have hn60 := hi.2.1
  refine o_met (by decide +kernel) (Nat.le_of_ble_eq_true rfl) (fun p l ee s m args below meth c G b C hr hn => ?_)
  have C : oCx p s m args meth c G b RX9 cX9_command 2 := C
  show oW p l ee ({ frames := 4, cells := 0, slots := 0, locals := 86 } : Room) s m args below meth c G b 2 0 0 (MQ below (o_Qc G b (oPv (fun σ2 => oMd σ σ2 mC nI px kc f) T)) args s 0 0 (fun q => b ≤ q)) T σ 0 [some (og mC), none] []
  refine r_al0 (q := 1) C dX9_command_0 rfl ?_
  refine r_iconst (q := 2) C dX9_command_1 rfl ?_
  refine r_putI (q := 5) C fp_X9_85 dX9_command_2 rfl rfl (by assumption) (by omega) ?_
  refine r_al0 (q := 6) C dX9_command_5 rfl ?_
  have hi2 : oMi (o_up σ mC 24 0) mC nI f := ⟨by rw [o_up_nj (Or.inr (by decide))]; exact hi.1, hi.2.1, fun j hj => by rw [o_up_ne (by omega)]; exact hi.2.2 j hj⟩
  refine r_callV1 (q := 9) C (c_X9_sign (px := px) (ok := true) hM hi2 (by rw [o_up_nj (Or.inr (by decide))]; exact hpl) (by rw [o_up_nj (Or.inr (by decide))]; exact hfl) (by omega)) m_X9_225 (by assumption) (by omega) dX9_command_6 rfl rfl (by decide) (by decide) (Nat.le_of_ble_eq_true rfl) ?_
  refine r_is1 (q := 10) C dX9_command_9 rfl (by decide) ?_
  refine r_al0 (q := 11) C dX9_command_10 rfl ?_
  refine r_dup (q := 12) C dX9_command_11 rfl ?_
  refine r_getI (q := 15) C f_X9_94 dX9_command_12 rfl rfl (by assumption) (by omega) ?_
  rw [o_up_nj (Or.inr (by decide)), hfl, flB_t]
  have hcr := sgF_r (px := px) (ok := true) (fun j hj => (hi.2.2 j hj).2)
  obtain ⟨cv, hcv⟩ : ∃ cv, cv = sgF f nI px true := ⟨_, rfl⟩
  rw [← hcv] at hcr ⊢
  have hlet : cv ≠ -1 → px < nI ∧ f px = cv := fun hne => by
    by_cases hc : px < nI
    · rw [sgF, if_pos ⟨rfl, hc⟩] at hcv
      exact ⟨hc, hcv.symm⟩
    · rw [sgF, if_neg (fun q => hc q.2)] at hcv
      exact absurd hcv hne
  by_cases ne99 : cv = 99
  · obtain ⟨hpx, hfx⟩ := hlet (by omega)
    rw [ne99] at hfx ⊢
    refine r_il1 (q := 16) C dX9_command_15 rfl ?_
    refine r_bipush (q := 18) C dX9_command_16 (by decide) rfl ?_
    refine r_iceq_t (q := 61) C (by decide) (by omega) (by omega) dX9_command_18 (by decide) ?_
    refine r_iconst (q := 62) C dX9_command_61 rfl ?_
    refine r_ior (q := 63) (z := 0) C (by decide) dX9_command_62 rfl ?_
    refine r_putZ (q := 66) C fp_X9_94 dX9_command_63 rfl rfl (Or.inl rfl) (by assumption) (by omega) ?_
    refine r_al0 (q := 67) C dX9_command_66 rfl ?_
    refine r_getI (q := 70) C f_X9_94 dX9_command_67 rfl rfl (by assumption) (by omega) ?_
    rw [o_up_at]
    refine r_ifeq_t (q := 74) C rfl (by omega) dX9_command_70 (by decide) ?_
    refine r_al0 (q := 75) C dX9_command_74 rfl ?_
    refine r_getR (q := 78) C f_X9_70 dX9_command_75 rfl rfl (by assumption) (by assumption) (by omega) ?_
    refine r_al0 (q := 79) C dX9_command_78 rfl ?_
    refine r_getI (q := 82) C f_X9_82 dX9_command_79 rfl rfl (by assumption) (by omega) ?_
    refine r_il1 (q := 83) C dX9_command_82 rfl ?_
    rw [o_up_nj (Or.inr (by decide)), o_up_nj (Or.inr (by decide)), hkc]
    refine r_iast (q := 84) C (kc) dX9_command_83 rfl (by assumption) (by omega) (by omega) (by omega) (by decide) ?_
    refine r_al0 (q := 85) C dX9_command_84 rfl ?_
    refine r_dup (q := 86) C dX9_command_85 rfl ?_
    refine r_getI (q := 89) C f_X9_79 dX9_command_86 rfl rfl (by assumption) (by omega) ?_
    rw [o_up_ne (by omega), o_up_nj (Or.inr (by decide)), o_up_nj (Or.inr (by decide)), hpl]
    refine r_iconst (q := 90) C dX9_command_89 rfl ?_
    refine r_iadd (q := 91) C dX9_command_90 rfl ?_
    refine r_putI (q := 94) C fp_X9_79 dX9_command_91 rfl rfl (by assumption) (by omega) ?_
    rw [show o_up (o_up (o_up (o_up σ mC 24 0) mC 27 0) (mC + 15) kc 99) mC 22 ((px : Int) + 1) = wrd0 σ mC kc px 99 from rfl]
    have hq0 := wrd0_q (σ := σ) (mC := mC) (kc := kc) (px := px) (cv := 99)
    have hl0 : ((px + 1, true, []) : oSt).2.2.length = 0 := rfl
    have hp0 : ((px + 1, true, []) : oSt).1 ≤ 60 := by
      show px + 1 ≤ 60
      omega
    have hi0 : oMi (wrd0 σ mC kc px 99) mC nI f := ⟨by unfold wrd0; rw [o_up_nj (Or.inr (by decide)), o_up_ne (by omega), o_up_nj (Or.inr (by decide)), o_up_nj (Or.inr (by decide))]; exact hi.1, hi.2.1, fun j hj => by unfold wrd0; rw [o_up_ne (by omega), o_up_ne (by omega), o_up_ne (by omega), o_up_ne (by omega)]; exact hi.2.2 j hj⟩
    have hkc0 : wrd0 σ mC kc px 99 mC 23 = (kc : Int) := by
      unfold wrd0
      rw [o_up_nj (Or.inr (by decide)), o_up_ne (by omega), o_up_nj (Or.inr (by decide)), o_up_nj (Or.inr (by decide))]
      exact hkc
    refine r_il1 (q := 95) C dX9_command_94 rfl ?_
    refine r_bipush (q := 97) C dX9_command_95 (by decide) rfl ?_
    refine r_icne_t (q := 107) C (by decide) (by omega) (by omega) dX9_command_97 (by decide) ?_
    refine r_al0 (q := 108) C dX9_command_107 rfl ?_
    refine r_callVv (q := 111) C (c_X9_digit (s0 := (px + 1, true, [])) hM hi0 hq0 hkc0 hk60 (by omega) hp0) m_X9_241 (by assumption) (by omega) dX9_command_108 rfl rfl (by decide) (by decide) (Nat.le_of_ble_eq_true rfl) (fun σ5 hq1 => ?_)
    have hl1 : (dgT f nI 1 (px + 1, true, [])).2.2.length = 1 := by rw [dgT_l, hl0]
    have hp1 : (dgT f nI 1 (px + 1, true, [])).1 ≤ 60 := dgT_p hp0 hi.2.1
    obtain ⟨s1q, hs1q⟩ : ∃ sq, sq = dgT f nI 1 (px + 1, true, []) := ⟨_, rfl⟩
    rw [← hs1q] at hq1 hl1 hp1
    refine r_il1 (q := 112) C dX9_command_111 rfl ?_
    refine r_bipush (q := 114) C dX9_command_112 (by decide) rfl ?_
    refine r_icne_t (q := 144) C (by decide) (by omega) (by omega) dX9_command_114 (by decide) ?_
    refine r_il1 (q := 145) C dX9_command_144 rfl ?_
    refine r_bipush (q := 147) C dX9_command_145 (by decide) rfl ?_
    refine r_icne_t (q := 156) C (by decide) (by omega) (by omega) dX9_command_147 (by decide) ?_
    refine r_al0 (q := 157) C dX9_command_156 rfl ?_
    refine r_bipush (q := 159) C dX9_command_157 (by decide) rfl ?_
    refine r_callVv (q := 162) C (c_X9_numberBehind (s0 := s1q) (cx := 58) hM hi0 hq1 hkc0 hk60 (by omega) hp1 (by omega)) m_X9_247 (by assumption) (by omega) dX9_command_159 rfl rfl (by decide) (by decide) (Nat.le_of_ble_eq_true rfl) (fun σ6 hq2 => ?_)
    have hl2 : (dgT f nI 4 (tkT f nI 58 s1q)).2.2.length = 2 := by rw [dgT_l, tkT_l, hl1]
    have hp2 : (dgT f nI 4 (tkT f nI 58 s1q)).1 ≤ 60 := dgT_p (tkT_p hp1 hi.2.1) hi.2.1
    obtain ⟨s2q, hs2q⟩ : ∃ sq, sq = dgT f nI 4 (tkT f nI 58 s1q) := ⟨_, rfl⟩
    rw [← hs2q] at hq2 hl2 hp2
    refine r_il1 (q := 163) C dX9_command_162 rfl ?_
    refine r_bipush (q := 165) C dX9_command_163 (by decide) rfl ?_
    refine r_icne_f (q := 174) (q2 := 168) C (by decide) (by omega) (by omega) dX9_command_165 (by decide) rfl ?_
    refine r_al0 (q := 169) C dX9_command_168 rfl ?_
    refine r_bipush (q := 171) C dX9_command_169 (by decide) rfl ?_
    refine r_callVv (q := 174) C (c_X9_numberBehind (s0 := s2q) (cx := 45) hM hi0 hq2 hkc0 hk60 (by omega) hp2 (by omega)) m_X9_247 (by assumption) (by omega) dX9_command_171 rfl rfl (by decide) (by decide) (Nat.le_of_ble_eq_true rfl) (fun σ7 hq3 => ?_)
    have hl3 : (dgT f nI 4 (tkT f nI 45 s2q)).2.2.length = 3 := by rw [dgT_l, tkT_l, hl2]
    have hp3 : (dgT f nI 4 (tkT f nI 45 s2q)).1 ≤ 60 := dgT_p (tkT_p hp2 hi.2.1) hi.2.1
    obtain ⟨s3q, hs3q⟩ : ∃ sq, sq = dgT f nI 4 (tkT f nI 45 s2q) := ⟨_, rfl⟩
    rw [← hs3q] at hq3 hl3 hp3
    refine r_il1 (q := 175) C dX9_command_174 rfl ?_
    refine r_bipush (q := 177) C dX9_command_175 (by decide) rfl ?_
    refine r_iceq_f (q := 186) (q2 := 180) C (by decide) (by omega) (by omega) dX9_command_177 (by decide) rfl ?_
    refine r_il1 (q := 181) C dX9_command_180 rfl ?_
    refine r_bipush (q := 183) C dX9_command_181 (by decide) rfl ?_
    refine r_icne_t (q := 192) C (by decide) (by omega) (by omega) dX9_command_183 (by decide) ?_
    refine r_il1 (q := 193) C dX9_command_192 rfl ?_
    refine r_bipush (q := 195) C dX9_command_193 (by decide) rfl ?_
    refine r_icne_t (q := 204) C (by decide) (by omega) (by omega) dX9_command_195 (by decide) ?_
    refine r_il1 (q := 205) C dX9_command_204 rfl ?_
    refine r_bipush (q := 207) C dX9_command_205 (by decide) rfl ?_
    refine r_iceq_f (q := 216) (q2 := 210) C (by decide) (by omega) (by omega) dX9_command_207 (by decide) rfl ?_
    refine r_il1 (q := 211) C dX9_command_210 rfl ?_
    refine r_bipush (q := 213) C dX9_command_211 (by decide) rfl ?_
    refine r_icne_t (q := 222) C (by decide) (by omega) (by omega) dX9_command_213 (by decide) ?_
    refine r_il1 (q := 223) C dX9_command_222 rfl ?_
    refine r_bipush (q := 225) C dX9_command_223 (by decide) rfl ?_
    refine r_icne_t (q := 234) C (by decide) (by omega) (by omega) dX9_command_225 (by decide) ?_
    refine r_al0 (q := 235) C dX9_command_234 rfl ?_
    refine r_dup (q := 236) C dX9_command_235 rfl ?_
    refine r_getI (q := 239) C f_X9_82 dX9_command_236 rfl rfl (by assumption) (by omega) ?_
    rw [hq3.2.2.2.1 23 (by decide) (by decide) (by decide), hkc0]
    refine r_iconst (q := 240) C dX9_command_239 rfl ?_
    refine r_iadd (q := 241) C dX9_command_240 rfl ?_
    refine r_putI (q := 244) C fp_X9_82 dX9_command_241 rfl rfl (by assumption) (by omega) ?_
    exact r_vret C hr dX9_command_244 (by decide) (by decide) ⟨rfl, rfl, oMd_end hpx hfx (by decide) (by rw [hs3q, hs2q, hs1q]; rfl) hq3⟩
  by_cases ne105 : cv = 105
  · obtain ⟨hpx, hfx⟩ := hlet (by omega)
    rw [ne105] at hfx ⊢
    refine r_il1 (q := 16) C dX9_command_15 rfl ?_
    refine r_bipush (q := 18) C dX9_command_16 (by decide) rfl ?_
    refine r_iceq_f (q := 61) (q2 := 21) C (by decide) (by omega) (by omega) dX9_command_18 (by decide) rfl ?_
    refine r_il1 (q := 22) C dX9_command_21 rfl ?_
    refine r_bipush (q := 24) C dX9_command_22 (by decide) rfl ?_
    refine r_iceq_t (q := 61) C (by decide) (by omega) (by omega) dX9_command_24 (by decide) ?_
    refine r_iconst (q := 62) C dX9_command_61 rfl ?_
    refine r_ior (q := 63) (z := 0) C (by decide) dX9_command_62 rfl ?_
    refine r_putZ (q := 66) C fp_X9_94 dX9_command_63 rfl rfl (Or.inl rfl) (by assumption) (by omega) ?_
    refine r_al0 (q := 67) C dX9_command_66 rfl ?_
    refine r_getI (q := 70) C f_X9_94 dX9_command_67 rfl rfl (by assumption) (by omega) ?_
    rw [o_up_at]
    refine r_ifeq_t (q := 74) C rfl (by omega) dX9_command_70 (by decide) ?_
    refine r_al0 (q := 75) C dX9_command_74 rfl ?_
    refine r_getR (q := 78) C f_X9_70 dX9_command_75 rfl rfl (by assumption) (by assumption) (by omega) ?_
    refine r_al0 (q := 79) C dX9_command_78 rfl ?_
    refine r_getI (q := 82) C f_X9_82 dX9_command_79 rfl rfl (by assumption) (by omega) ?_
    refine r_il1 (q := 83) C dX9_command_82 rfl ?_
    rw [o_up_nj (Or.inr (by decide)), o_up_nj (Or.inr (by decide)), hkc]
    refine r_iast (q := 84) C (kc) dX9_command_83 rfl (by assumption) (by omega) (by omega) (by omega) (by decide) ?_
    refine r_al0 (q := 85) C dX9_command_84 rfl ?_
    refine r_dup (q := 86) C dX9_command_85 rfl ?_
    refine r_getI (q := 89) C f_X9_79 dX9_command_86 rfl rfl (by assumption) (by omega) ?_
    rw [o_up_ne (by omega), o_up_nj (Or.inr (by decide)), o_up_nj (Or.inr (by decide)), hpl]
    refine r_iconst (q := 90) C dX9_command_89 rfl ?_
    refine r_iadd (q := 91) C dX9_command_90 rfl ?_
    refine r_putI (q := 94) C fp_X9_79 dX9_command_91 rfl rfl (by assumption) (by omega) ?_
    rw [show o_up (o_up (o_up (o_up σ mC 24 0) mC 27 0) (mC + 15) kc 105) mC 22 ((px : Int) + 1) = wrd0 σ mC kc px 105 from rfl]
    have hq0 := wrd0_q (σ := σ) (mC := mC) (kc := kc) (px := px) (cv := 105)
    have hl0 : ((px + 1, true, []) : oSt).2.2.length = 0 := rfl
    have hp0 : ((px + 1, true, []) : oSt).1 ≤ 60 := by
      show px + 1 ≤ 60
      omega
    have hi0 : oMi (wrd0 σ mC kc px 105) mC nI f := ⟨by unfold wrd0; rw [o_up_nj (Or.inr (by decide)), o_up_ne (by omega), o_up_nj (Or.inr (by decide)), o_up_nj (Or.inr (by decide))]; exact hi.1, hi.2.1, fun j hj => by unfold wrd0; rw [o_up_ne (by omega), o_up_ne (by omega), o_up_ne (by omega), o_up_ne (by omega)]; exact hi.2.2 j hj⟩
    have hkc0 : wrd0 σ mC kc px 105 mC 23 = (kc : Int) := by
      unfold wrd0
      rw [o_up_nj (Or.inr (by decide)), o_up_ne (by omega), o_up_nj (Or.inr (by decide)), o_up_nj (Or.inr (by decide))]
      exact hkc
    refine r_il1 (q := 95) C dX9_command_94 rfl ?_
    refine r_bipush (q := 97) C dX9_command_95 (by decide) rfl ?_
    refine r_icne_t (q := 107) C (by decide) (by omega) (by omega) dX9_command_97 (by decide) ?_
    refine r_al0 (q := 108) C dX9_command_107 rfl ?_
    refine r_callVv (q := 111) C (c_X9_digit (s0 := (px + 1, true, [])) hM hi0 hq0 hkc0 hk60 (by omega) hp0) m_X9_241 (by assumption) (by omega) dX9_command_108 rfl rfl (by decide) (by decide) (Nat.le_of_ble_eq_true rfl) (fun σ5 hq1 => ?_)
    have hl1 : (dgT f nI 1 (px + 1, true, [])).2.2.length = 1 := by rw [dgT_l, hl0]
    have hp1 : (dgT f nI 1 (px + 1, true, [])).1 ≤ 60 := dgT_p hp0 hi.2.1
    obtain ⟨s1q, hs1q⟩ : ∃ sq, sq = dgT f nI 1 (px + 1, true, []) := ⟨_, rfl⟩
    rw [← hs1q] at hq1 hl1 hp1
    refine r_il1 (q := 112) C dX9_command_111 rfl ?_
    refine r_bipush (q := 114) C dX9_command_112 (by decide) rfl ?_
    refine r_icne_t (q := 144) C (by decide) (by omega) (by omega) dX9_command_114 (by decide) ?_
    refine r_il1 (q := 145) C dX9_command_144 rfl ?_
    refine r_bipush (q := 147) C dX9_command_145 (by decide) rfl ?_
    refine r_icne_t (q := 156) C (by decide) (by omega) (by omega) dX9_command_147 (by decide) ?_
    refine r_al0 (q := 157) C dX9_command_156 rfl ?_
    refine r_bipush (q := 159) C dX9_command_157 (by decide) rfl ?_
    refine r_callVv (q := 162) C (c_X9_numberBehind (s0 := s1q) (cx := 58) hM hi0 hq1 hkc0 hk60 (by omega) hp1 (by omega)) m_X9_247 (by assumption) (by omega) dX9_command_159 rfl rfl (by decide) (by decide) (Nat.le_of_ble_eq_true rfl) (fun σ6 hq2 => ?_)
    have hl2 : (dgT f nI 4 (tkT f nI 58 s1q)).2.2.length = 2 := by rw [dgT_l, tkT_l, hl1]
    have hp2 : (dgT f nI 4 (tkT f nI 58 s1q)).1 ≤ 60 := dgT_p (tkT_p hp1 hi.2.1) hi.2.1
    obtain ⟨s2q, hs2q⟩ : ∃ sq, sq = dgT f nI 4 (tkT f nI 58 s1q) := ⟨_, rfl⟩
    rw [← hs2q] at hq2 hl2 hp2
    refine r_il1 (q := 163) C dX9_command_162 rfl ?_
    refine r_bipush (q := 165) C dX9_command_163 (by decide) rfl ?_
    refine r_icne_t (q := 174) C (by decide) (by omega) (by omega) dX9_command_165 (by decide) ?_
    refine r_il1 (q := 175) C dX9_command_174 rfl ?_
    refine r_bipush (q := 177) C dX9_command_175 (by decide) rfl ?_
    refine r_iceq_t (q := 186) C (by decide) (by omega) (by omega) dX9_command_177 (by decide) ?_
    refine r_al0 (q := 187) C dX9_command_186 rfl ?_
    refine r_bipush (q := 189) C dX9_command_187 (by decide) rfl ?_
    refine r_callVv (q := 192) C (c_X9_numberBehind (s0 := s2q) (cx := 43) hM hi0 hq2 hkc0 hk60 (by omega) hp2 (by omega)) m_X9_247 (by assumption) (by omega) dX9_command_189 rfl rfl (by decide) (by decide) (Nat.le_of_ble_eq_true rfl) (fun σ7 hq3 => ?_)
    have hl3 : (dgT f nI 4 (tkT f nI 43 s2q)).2.2.length = 3 := by rw [dgT_l, tkT_l, hl2]
    have hp3 : (dgT f nI 4 (tkT f nI 43 s2q)).1 ≤ 60 := dgT_p (tkT_p hp2 hi.2.1) hi.2.1
    obtain ⟨s3q, hs3q⟩ : ∃ sq, sq = dgT f nI 4 (tkT f nI 43 s2q) := ⟨_, rfl⟩
    rw [← hs3q] at hq3 hl3 hp3
    refine r_il1 (q := 193) C dX9_command_192 rfl ?_
    refine r_bipush (q := 195) C dX9_command_193 (by decide) rfl ?_
    refine r_icne_f (q := 204) (q2 := 198) C (by decide) (by omega) (by omega) dX9_command_195 (by decide) rfl ?_
    refine r_al0 (q := 199) C dX9_command_198 rfl ?_
    refine r_bipush (q := 201) C dX9_command_199 (by decide) rfl ?_
    refine r_callVv (q := 204) C (c_X9_digitBehind (s0 := s3q) (cx := 42) hM hi0 hq3 hkc0 hk60 (by omega) hp3 (by omega)) m_X9_244 (by assumption) (by omega) dX9_command_201 rfl rfl (by decide) (by decide) (Nat.le_of_ble_eq_true rfl) (fun σ8 hq4 => ?_)
    have hl4 : (dgT f nI 1 (tkT f nI 42 s3q)).2.2.length = 4 := by rw [dgT_l, tkT_l, hl3]
    have hp4 : (dgT f nI 1 (tkT f nI 42 s3q)).1 ≤ 60 := dgT_p (tkT_p hp3 hi.2.1) hi.2.1
    obtain ⟨s4q, hs4q⟩ : ∃ sq, sq = dgT f nI 1 (tkT f nI 42 s3q) := ⟨_, rfl⟩
    rw [← hs4q] at hq4 hl4 hp4
    refine r_il1 (q := 205) C dX9_command_204 rfl ?_
    refine r_bipush (q := 207) C dX9_command_205 (by decide) rfl ?_
    refine r_iceq_f (q := 216) (q2 := 210) C (by decide) (by omega) (by omega) dX9_command_207 (by decide) rfl ?_
    refine r_il1 (q := 211) C dX9_command_210 rfl ?_
    refine r_bipush (q := 213) C dX9_command_211 (by decide) rfl ?_
    refine r_icne_t (q := 222) C (by decide) (by omega) (by omega) dX9_command_213 (by decide) ?_
    refine r_il1 (q := 223) C dX9_command_222 rfl ?_
    refine r_bipush (q := 225) C dX9_command_223 (by decide) rfl ?_
    refine r_icne_t (q := 234) C (by decide) (by omega) (by omega) dX9_command_225 (by decide) ?_
    refine r_al0 (q := 235) C dX9_command_234 rfl ?_
    refine r_dup (q := 236) C dX9_command_235 rfl ?_
    refine r_getI (q := 239) C f_X9_82 dX9_command_236 rfl rfl (by assumption) (by omega) ?_
    rw [hq4.2.2.2.1 23 (by decide) (by decide) (by decide), hkc0]
    refine r_iconst (q := 240) C dX9_command_239 rfl ?_
    refine r_iadd (q := 241) C dX9_command_240 rfl ?_
    refine r_putI (q := 244) C fp_X9_82 dX9_command_241 rfl rfl (by assumption) (by omega) ?_
    exact r_vret C hr dX9_command_244 (by decide) (by decide) ⟨rfl, rfl, oMd_end hpx hfx (by decide) (by rw [hs4q, hs3q, hs2q, hs1q]; rfl) hq4⟩
  by_cases ne119 : cv = 119
  · obtain ⟨hpx, hfx⟩ := hlet (by omega)
    rw [ne119] at hfx ⊢
    refine r_il1 (q := 16) C dX9_command_15 rfl ?_
    refine r_bipush (q := 18) C dX9_command_16 (by decide) rfl ?_
    refine r_iceq_f (q := 61) (q2 := 21) C (by decide) (by omega) (by omega) dX9_command_18 (by decide) rfl ?_
    refine r_il1 (q := 22) C dX9_command_21 rfl ?_
    refine r_bipush (q := 24) C dX9_command_22 (by decide) rfl ?_
    refine r_iceq_f (q := 61) (q2 := 27) C (by decide) (by omega) (by omega) dX9_command_24 (by decide) rfl ?_
    refine r_il1 (q := 28) C dX9_command_27 rfl ?_
    refine r_bipush (q := 30) C dX9_command_28 (by decide) rfl ?_
    refine r_iceq_t (q := 61) C (by decide) (by omega) (by omega) dX9_command_30 (by decide) ?_
    refine r_iconst (q := 62) C dX9_command_61 rfl ?_
    refine r_ior (q := 63) (z := 0) C (by decide) dX9_command_62 rfl ?_
    refine r_putZ (q := 66) C fp_X9_94 dX9_command_63 rfl rfl (Or.inl rfl) (by assumption) (by omega) ?_
    refine r_al0 (q := 67) C dX9_command_66 rfl ?_
    refine r_getI (q := 70) C f_X9_94 dX9_command_67 rfl rfl (by assumption) (by omega) ?_
    rw [o_up_at]
    refine r_ifeq_t (q := 74) C rfl (by omega) dX9_command_70 (by decide) ?_
    refine r_al0 (q := 75) C dX9_command_74 rfl ?_
    refine r_getR (q := 78) C f_X9_70 dX9_command_75 rfl rfl (by assumption) (by assumption) (by omega) ?_
    refine r_al0 (q := 79) C dX9_command_78 rfl ?_
    refine r_getI (q := 82) C f_X9_82 dX9_command_79 rfl rfl (by assumption) (by omega) ?_
    refine r_il1 (q := 83) C dX9_command_82 rfl ?_
    rw [o_up_nj (Or.inr (by decide)), o_up_nj (Or.inr (by decide)), hkc]
    refine r_iast (q := 84) C (kc) dX9_command_83 rfl (by assumption) (by omega) (by omega) (by omega) (by decide) ?_
    refine r_al0 (q := 85) C dX9_command_84 rfl ?_
    refine r_dup (q := 86) C dX9_command_85 rfl ?_
    refine r_getI (q := 89) C f_X9_79 dX9_command_86 rfl rfl (by assumption) (by omega) ?_
    rw [o_up_ne (by omega), o_up_nj (Or.inr (by decide)), o_up_nj (Or.inr (by decide)), hpl]
    refine r_iconst (q := 90) C dX9_command_89 rfl ?_
    refine r_iadd (q := 91) C dX9_command_90 rfl ?_
    refine r_putI (q := 94) C fp_X9_79 dX9_command_91 rfl rfl (by assumption) (by omega) ?_
    rw [show o_up (o_up (o_up (o_up σ mC 24 0) mC 27 0) (mC + 15) kc 119) mC 22 ((px : Int) + 1) = wrd0 σ mC kc px 119 from rfl]
    have hq0 := wrd0_q (σ := σ) (mC := mC) (kc := kc) (px := px) (cv := 119)
    have hl0 : ((px + 1, true, []) : oSt).2.2.length = 0 := rfl
    have hp0 : ((px + 1, true, []) : oSt).1 ≤ 60 := by
      show px + 1 ≤ 60
      omega
    have hi0 : oMi (wrd0 σ mC kc px 119) mC nI f := ⟨by unfold wrd0; rw [o_up_nj (Or.inr (by decide)), o_up_ne (by omega), o_up_nj (Or.inr (by decide)), o_up_nj (Or.inr (by decide))]; exact hi.1, hi.2.1, fun j hj => by unfold wrd0; rw [o_up_ne (by omega), o_up_ne (by omega), o_up_ne (by omega), o_up_ne (by omega)]; exact hi.2.2 j hj⟩
    have hkc0 : wrd0 σ mC kc px 119 mC 23 = (kc : Int) := by
      unfold wrd0
      rw [o_up_nj (Or.inr (by decide)), o_up_ne (by omega), o_up_nj (Or.inr (by decide)), o_up_nj (Or.inr (by decide))]
      exact hkc
    refine r_il1 (q := 95) C dX9_command_94 rfl ?_
    refine r_bipush (q := 97) C dX9_command_95 (by decide) rfl ?_
    refine r_icne_t (q := 107) C (by decide) (by omega) (by omega) dX9_command_97 (by decide) ?_
    refine r_al0 (q := 108) C dX9_command_107 rfl ?_
    refine r_callVv (q := 111) C (c_X9_digit (s0 := (px + 1, true, [])) hM hi0 hq0 hkc0 hk60 (by omega) hp0) m_X9_241 (by assumption) (by omega) dX9_command_108 rfl rfl (by decide) (by decide) (Nat.le_of_ble_eq_true rfl) (fun σ5 hq1 => ?_)
    have hl1 : (dgT f nI 1 (px + 1, true, [])).2.2.length = 1 := by rw [dgT_l, hl0]
    have hp1 : (dgT f nI 1 (px + 1, true, [])).1 ≤ 60 := dgT_p hp0 hi.2.1
    obtain ⟨s1q, hs1q⟩ : ∃ sq, sq = dgT f nI 1 (px + 1, true, []) := ⟨_, rfl⟩
    rw [← hs1q] at hq1 hl1 hp1
    refine r_il1 (q := 112) C dX9_command_111 rfl ?_
    refine r_bipush (q := 114) C dX9_command_112 (by decide) rfl ?_
    refine r_icne_t (q := 144) C (by decide) (by omega) (by omega) dX9_command_114 (by decide) ?_
    refine r_il1 (q := 145) C dX9_command_144 rfl ?_
    refine r_bipush (q := 147) C dX9_command_145 (by decide) rfl ?_
    refine r_icne_t (q := 156) C (by decide) (by omega) (by omega) dX9_command_147 (by decide) ?_
    refine r_al0 (q := 157) C dX9_command_156 rfl ?_
    refine r_bipush (q := 159) C dX9_command_157 (by decide) rfl ?_
    refine r_callVv (q := 162) C (c_X9_numberBehind (s0 := s1q) (cx := 58) hM hi0 hq1 hkc0 hk60 (by omega) hp1 (by omega)) m_X9_247 (by assumption) (by omega) dX9_command_159 rfl rfl (by decide) (by decide) (Nat.le_of_ble_eq_true rfl) (fun σ6 hq2 => ?_)
    have hl2 : (dgT f nI 4 (tkT f nI 58 s1q)).2.2.length = 2 := by rw [dgT_l, tkT_l, hl1]
    have hp2 : (dgT f nI 4 (tkT f nI 58 s1q)).1 ≤ 60 := dgT_p (tkT_p hp1 hi.2.1) hi.2.1
    obtain ⟨s2q, hs2q⟩ : ∃ sq, sq = dgT f nI 4 (tkT f nI 58 s1q) := ⟨_, rfl⟩
    rw [← hs2q] at hq2 hl2 hp2
    refine r_il1 (q := 163) C dX9_command_162 rfl ?_
    refine r_bipush (q := 165) C dX9_command_163 (by decide) rfl ?_
    refine r_icne_t (q := 174) C (by decide) (by omega) (by omega) dX9_command_165 (by decide) ?_
    refine r_il1 (q := 175) C dX9_command_174 rfl ?_
    refine r_bipush (q := 177) C dX9_command_175 (by decide) rfl ?_
    refine r_iceq_f (q := 186) (q2 := 180) C (by decide) (by omega) (by omega) dX9_command_177 (by decide) rfl ?_
    refine r_il1 (q := 181) C dX9_command_180 rfl ?_
    refine r_bipush (q := 183) C dX9_command_181 (by decide) rfl ?_
    refine r_icne_t (q := 192) C (by decide) (by omega) (by omega) dX9_command_183 (by decide) ?_
    refine r_il1 (q := 193) C dX9_command_192 rfl ?_
    refine r_bipush (q := 195) C dX9_command_193 (by decide) rfl ?_
    refine r_icne_t (q := 204) C (by decide) (by omega) (by omega) dX9_command_195 (by decide) ?_
    refine r_il1 (q := 205) C dX9_command_204 rfl ?_
    refine r_bipush (q := 207) C dX9_command_205 (by decide) rfl ?_
    refine r_iceq_t (q := 216) C (by decide) (by omega) (by omega) dX9_command_207 (by decide) ?_
    refine r_al0 (q := 217) C dX9_command_216 rfl ?_
    refine r_bipush (q := 219) C dX9_command_217 (by decide) rfl ?_
    refine r_callVv (q := 222) C (c_X9_digitBehind (s0 := s2q) (cx := 61) hM hi0 hq2 hkc0 hk60 (by omega) hp2 (by omega)) m_X9_244 (by assumption) (by omega) dX9_command_219 rfl rfl (by decide) (by decide) (Nat.le_of_ble_eq_true rfl) (fun σ7 hq3 => ?_)
    have hl3 : (dgT f nI 1 (tkT f nI 61 s2q)).2.2.length = 3 := by rw [dgT_l, tkT_l, hl2]
    have hp3 : (dgT f nI 1 (tkT f nI 61 s2q)).1 ≤ 60 := dgT_p (tkT_p hp2 hi.2.1) hi.2.1
    obtain ⟨s3q, hs3q⟩ : ∃ sq, sq = dgT f nI 1 (tkT f nI 61 s2q) := ⟨_, rfl⟩
    rw [← hs3q] at hq3 hl3 hp3
    refine r_il1 (q := 223) C dX9_command_222 rfl ?_
    refine r_bipush (q := 225) C dX9_command_223 (by decide) rfl ?_
    refine r_icne_t (q := 234) C (by decide) (by omega) (by omega) dX9_command_225 (by decide) ?_
    refine r_al0 (q := 235) C dX9_command_234 rfl ?_
    refine r_dup (q := 236) C dX9_command_235 rfl ?_
    refine r_getI (q := 239) C f_X9_82 dX9_command_236 rfl rfl (by assumption) (by omega) ?_
    rw [hq3.2.2.2.1 23 (by decide) (by decide) (by decide), hkc0]
    refine r_iconst (q := 240) C dX9_command_239 rfl ?_
    refine r_iadd (q := 241) C dX9_command_240 rfl ?_
    refine r_putI (q := 244) C fp_X9_82 dX9_command_241 rfl rfl (by assumption) (by omega) ?_
    exact r_vret C hr dX9_command_244 (by decide) (by decide) ⟨rfl, rfl, oMd_end hpx hfx (by decide) (by rw [hs3q, hs2q, hs1q]; rfl) hq3⟩
  by_cases ne116 : cv = 116
  · obtain ⟨hpx, hfx⟩ := hlet (by omega)
    rw [ne116] at hfx ⊢
    refine r_il1 (q := 16) C dX9_command_15 rfl ?_
    refine r_bipush (q := 18) C dX9_command_16 (by decide) rfl ?_
    refine r_iceq_f (q := 61) (q2 := 21) C (by decide) (by omega) (by omega) dX9_command_18 (by decide) rfl ?_
    refine r_il1 (q := 22) C dX9_command_21 rfl ?_
    refine r_bipush (q := 24) C dX9_command_22 (by decide) rfl ?_
    refine r_iceq_f (q := 61) (q2 := 27) C (by decide) (by omega) (by omega) dX9_command_24 (by decide) rfl ?_
    refine r_il1 (q := 28) C dX9_command_27 rfl ?_
    refine r_bipush (q := 30) C dX9_command_28 (by decide) rfl ?_
    refine r_iceq_f (q := 61) (q2 := 33) C (by decide) (by omega) (by omega) dX9_command_30 (by decide) rfl ?_
    refine r_il1 (q := 34) C dX9_command_33 rfl ?_
    refine r_bipush (q := 36) C dX9_command_34 (by decide) rfl ?_
    refine r_iceq_t (q := 61) C (by decide) (by omega) (by omega) dX9_command_36 (by decide) ?_
    refine r_iconst (q := 62) C dX9_command_61 rfl ?_
    refine r_ior (q := 63) (z := 0) C (by decide) dX9_command_62 rfl ?_
    refine r_putZ (q := 66) C fp_X9_94 dX9_command_63 rfl rfl (Or.inl rfl) (by assumption) (by omega) ?_
    refine r_al0 (q := 67) C dX9_command_66 rfl ?_
    refine r_getI (q := 70) C f_X9_94 dX9_command_67 rfl rfl (by assumption) (by omega) ?_
    rw [o_up_at]
    refine r_ifeq_t (q := 74) C rfl (by omega) dX9_command_70 (by decide) ?_
    refine r_al0 (q := 75) C dX9_command_74 rfl ?_
    refine r_getR (q := 78) C f_X9_70 dX9_command_75 rfl rfl (by assumption) (by assumption) (by omega) ?_
    refine r_al0 (q := 79) C dX9_command_78 rfl ?_
    refine r_getI (q := 82) C f_X9_82 dX9_command_79 rfl rfl (by assumption) (by omega) ?_
    refine r_il1 (q := 83) C dX9_command_82 rfl ?_
    rw [o_up_nj (Or.inr (by decide)), o_up_nj (Or.inr (by decide)), hkc]
    refine r_iast (q := 84) C (kc) dX9_command_83 rfl (by assumption) (by omega) (by omega) (by omega) (by decide) ?_
    refine r_al0 (q := 85) C dX9_command_84 rfl ?_
    refine r_dup (q := 86) C dX9_command_85 rfl ?_
    refine r_getI (q := 89) C f_X9_79 dX9_command_86 rfl rfl (by assumption) (by omega) ?_
    rw [o_up_ne (by omega), o_up_nj (Or.inr (by decide)), o_up_nj (Or.inr (by decide)), hpl]
    refine r_iconst (q := 90) C dX9_command_89 rfl ?_
    refine r_iadd (q := 91) C dX9_command_90 rfl ?_
    refine r_putI (q := 94) C fp_X9_79 dX9_command_91 rfl rfl (by assumption) (by omega) ?_
    rw [show o_up (o_up (o_up (o_up σ mC 24 0) mC 27 0) (mC + 15) kc 116) mC 22 ((px : Int) + 1) = wrd0 σ mC kc px 116 from rfl]
    have hq0 := wrd0_q (σ := σ) (mC := mC) (kc := kc) (px := px) (cv := 116)
    have hl0 : ((px + 1, true, []) : oSt).2.2.length = 0 := rfl
    have hp0 : ((px + 1, true, []) : oSt).1 ≤ 60 := by
      show px + 1 ≤ 60
      omega
    have hi0 : oMi (wrd0 σ mC kc px 116) mC nI f := ⟨by unfold wrd0; rw [o_up_nj (Or.inr (by decide)), o_up_ne (by omega), o_up_nj (Or.inr (by decide)), o_up_nj (Or.inr (by decide))]; exact hi.1, hi.2.1, fun j hj => by unfold wrd0; rw [o_up_ne (by omega), o_up_ne (by omega), o_up_ne (by omega), o_up_ne (by omega)]; exact hi.2.2 j hj⟩
    have hkc0 : wrd0 σ mC kc px 116 mC 23 = (kc : Int) := by
      unfold wrd0
      rw [o_up_nj (Or.inr (by decide)), o_up_ne (by omega), o_up_nj (Or.inr (by decide)), o_up_nj (Or.inr (by decide))]
      exact hkc
    refine r_il1 (q := 95) C dX9_command_94 rfl ?_
    refine r_bipush (q := 97) C dX9_command_95 (by decide) rfl ?_
    refine r_icne_t (q := 107) C (by decide) (by omega) (by omega) dX9_command_97 (by decide) ?_
    refine r_al0 (q := 108) C dX9_command_107 rfl ?_
    refine r_callVv (q := 111) C (c_X9_digit (s0 := (px + 1, true, [])) hM hi0 hq0 hkc0 hk60 (by omega) hp0) m_X9_241 (by assumption) (by omega) dX9_command_108 rfl rfl (by decide) (by decide) (Nat.le_of_ble_eq_true rfl) (fun σ5 hq1 => ?_)
    have hl1 : (dgT f nI 1 (px + 1, true, [])).2.2.length = 1 := by rw [dgT_l, hl0]
    have hp1 : (dgT f nI 1 (px + 1, true, [])).1 ≤ 60 := dgT_p hp0 hi.2.1
    obtain ⟨s1q, hs1q⟩ : ∃ sq, sq = dgT f nI 1 (px + 1, true, []) := ⟨_, rfl⟩
    rw [← hs1q] at hq1 hl1 hp1
    refine r_il1 (q := 112) C dX9_command_111 rfl ?_
    refine r_bipush (q := 114) C dX9_command_112 (by decide) rfl ?_
    refine r_icne_t (q := 144) C (by decide) (by omega) (by omega) dX9_command_114 (by decide) ?_
    refine r_il1 (q := 145) C dX9_command_144 rfl ?_
    refine r_bipush (q := 147) C dX9_command_145 (by decide) rfl ?_
    refine r_icne_t (q := 156) C (by decide) (by omega) (by omega) dX9_command_147 (by decide) ?_
    refine r_al0 (q := 157) C dX9_command_156 rfl ?_
    refine r_bipush (q := 159) C dX9_command_157 (by decide) rfl ?_
    refine r_callVv (q := 162) C (c_X9_numberBehind (s0 := s1q) (cx := 58) hM hi0 hq1 hkc0 hk60 (by omega) hp1 (by omega)) m_X9_247 (by assumption) (by omega) dX9_command_159 rfl rfl (by decide) (by decide) (Nat.le_of_ble_eq_true rfl) (fun σ6 hq2 => ?_)
    have hl2 : (dgT f nI 4 (tkT f nI 58 s1q)).2.2.length = 2 := by rw [dgT_l, tkT_l, hl1]
    have hp2 : (dgT f nI 4 (tkT f nI 58 s1q)).1 ≤ 60 := dgT_p (tkT_p hp1 hi.2.1) hi.2.1
    obtain ⟨s2q, hs2q⟩ : ∃ sq, sq = dgT f nI 4 (tkT f nI 58 s1q) := ⟨_, rfl⟩
    rw [← hs2q] at hq2 hl2 hp2
    refine r_il1 (q := 163) C dX9_command_162 rfl ?_
    refine r_bipush (q := 165) C dX9_command_163 (by decide) rfl ?_
    refine r_icne_t (q := 174) C (by decide) (by omega) (by omega) dX9_command_165 (by decide) ?_
    refine r_il1 (q := 175) C dX9_command_174 rfl ?_
    refine r_bipush (q := 177) C dX9_command_175 (by decide) rfl ?_
    refine r_iceq_f (q := 186) (q2 := 180) C (by decide) (by omega) (by omega) dX9_command_177 (by decide) rfl ?_
    refine r_il1 (q := 181) C dX9_command_180 rfl ?_
    refine r_bipush (q := 183) C dX9_command_181 (by decide) rfl ?_
    refine r_icne_t (q := 192) C (by decide) (by omega) (by omega) dX9_command_183 (by decide) ?_
    refine r_il1 (q := 193) C dX9_command_192 rfl ?_
    refine r_bipush (q := 195) C dX9_command_193 (by decide) rfl ?_
    refine r_icne_t (q := 204) C (by decide) (by omega) (by omega) dX9_command_195 (by decide) ?_
    refine r_il1 (q := 205) C dX9_command_204 rfl ?_
    refine r_bipush (q := 207) C dX9_command_205 (by decide) rfl ?_
    refine r_iceq_f (q := 216) (q2 := 210) C (by decide) (by omega) (by omega) dX9_command_207 (by decide) rfl ?_
    refine r_il1 (q := 211) C dX9_command_210 rfl ?_
    refine r_bipush (q := 213) C dX9_command_211 (by decide) rfl ?_
    refine r_icne_t (q := 222) C (by decide) (by omega) (by omega) dX9_command_213 (by decide) ?_
    refine r_il1 (q := 223) C dX9_command_222 rfl ?_
    refine r_bipush (q := 225) C dX9_command_223 (by decide) rfl ?_
    refine r_icne_f (q := 234) (q2 := 228) C (by decide) (by omega) (by omega) dX9_command_225 (by decide) rfl ?_
    refine r_al0 (q := 229) C dX9_command_228 rfl ?_
    refine r_bipush (q := 231) C dX9_command_229 (by decide) rfl ?_
    refine r_callVv (q := 234) C (c_X9_numberBehind (s0 := s2q) (cx := 61) hM hi0 hq2 hkc0 hk60 (by omega) hp2 (by omega)) m_X9_247 (by assumption) (by omega) dX9_command_231 rfl rfl (by decide) (by decide) (Nat.le_of_ble_eq_true rfl) (fun σ7 hq3 => ?_)
    have hl3 : (dgT f nI 4 (tkT f nI 61 s2q)).2.2.length = 3 := by rw [dgT_l, tkT_l, hl2]
    have hp3 : (dgT f nI 4 (tkT f nI 61 s2q)).1 ≤ 60 := dgT_p (tkT_p hp2 hi.2.1) hi.2.1
    obtain ⟨s3q, hs3q⟩ : ∃ sq, sq = dgT f nI 4 (tkT f nI 61 s2q) := ⟨_, rfl⟩
    rw [← hs3q] at hq3 hl3 hp3
    refine r_al0 (q := 235) C dX9_command_234 rfl ?_
    refine r_dup (q := 236) C dX9_command_235 rfl ?_
    refine r_getI (q := 239) C f_X9_82 dX9_command_236 rfl rfl (by assumption) (by omega) ?_
    rw [hq3.2.2.2.1 23 (by decide) (by decide) (by decide), hkc0]
    refine r_iconst (q := 240) C dX9_command_239 rfl ?_
    refine r_iadd (q := 241) C dX9_command_240 rfl ?_
    refine r_putI (q := 244) C fp_X9_82 dX9_command_241 rfl rfl (by assumption) (by omega) ?_
    exact r_vret C hr dX9_command_244 (by decide) (by decide) ⟨rfl, rfl, oMd_end hpx hfx (by decide) (by rw [hs3q, hs2q, hs1q]; rfl) hq3⟩
  by_cases ne98 : cv = 98
  · obtain ⟨hpx, hfx⟩ := hlet (by omega)
    rw [ne98] at hfx ⊢
    refine r_il1 (q := 16) C dX9_command_15 rfl ?_
    refine r_bipush (q := 18) C dX9_command_16 (by decide) rfl ?_
    refine r_iceq_f (q := 61) (q2 := 21) C (by decide) (by omega) (by omega) dX9_command_18 (by decide) rfl ?_
    refine r_il1 (q := 22) C dX9_command_21 rfl ?_
    refine r_bipush (q := 24) C dX9_command_22 (by decide) rfl ?_
    refine r_iceq_f (q := 61) (q2 := 27) C (by decide) (by omega) (by omega) dX9_command_24 (by decide) rfl ?_
    refine r_il1 (q := 28) C dX9_command_27 rfl ?_
    refine r_bipush (q := 30) C dX9_command_28 (by decide) rfl ?_
    refine r_iceq_f (q := 61) (q2 := 33) C (by decide) (by omega) (by omega) dX9_command_30 (by decide) rfl ?_
    refine r_il1 (q := 34) C dX9_command_33 rfl ?_
    refine r_bipush (q := 36) C dX9_command_34 (by decide) rfl ?_
    refine r_iceq_f (q := 61) (q2 := 39) C (by decide) (by omega) (by omega) dX9_command_36 (by decide) rfl ?_
    refine r_il1 (q := 40) C dX9_command_39 rfl ?_
    refine r_bipush (q := 42) C dX9_command_40 (by decide) rfl ?_
    refine r_iceq_t (q := 61) C (by decide) (by omega) (by omega) dX9_command_42 (by decide) ?_
    refine r_iconst (q := 62) C dX9_command_61 rfl ?_
    refine r_ior (q := 63) (z := 0) C (by decide) dX9_command_62 rfl ?_
    refine r_putZ (q := 66) C fp_X9_94 dX9_command_63 rfl rfl (Or.inl rfl) (by assumption) (by omega) ?_
    refine r_al0 (q := 67) C dX9_command_66 rfl ?_
    refine r_getI (q := 70) C f_X9_94 dX9_command_67 rfl rfl (by assumption) (by omega) ?_
    rw [o_up_at]
    refine r_ifeq_t (q := 74) C rfl (by omega) dX9_command_70 (by decide) ?_
    refine r_al0 (q := 75) C dX9_command_74 rfl ?_
    refine r_getR (q := 78) C f_X9_70 dX9_command_75 rfl rfl (by assumption) (by assumption) (by omega) ?_
    refine r_al0 (q := 79) C dX9_command_78 rfl ?_
    refine r_getI (q := 82) C f_X9_82 dX9_command_79 rfl rfl (by assumption) (by omega) ?_
    refine r_il1 (q := 83) C dX9_command_82 rfl ?_
    rw [o_up_nj (Or.inr (by decide)), o_up_nj (Or.inr (by decide)), hkc]
    refine r_iast (q := 84) C (kc) dX9_command_83 rfl (by assumption) (by omega) (by omega) (by omega) (by decide) ?_
    refine r_al0 (q := 85) C dX9_command_84 rfl ?_
    refine r_dup (q := 86) C dX9_command_85 rfl ?_
    refine r_getI (q := 89) C f_X9_79 dX9_command_86 rfl rfl (by assumption) (by omega) ?_
    rw [o_up_ne (by omega), o_up_nj (Or.inr (by decide)), o_up_nj (Or.inr (by decide)), hpl]
    refine r_iconst (q := 90) C dX9_command_89 rfl ?_
    refine r_iadd (q := 91) C dX9_command_90 rfl ?_
    refine r_putI (q := 94) C fp_X9_79 dX9_command_91 rfl rfl (by assumption) (by omega) ?_
    rw [show o_up (o_up (o_up (o_up σ mC 24 0) mC 27 0) (mC + 15) kc 98) mC 22 ((px : Int) + 1) = wrd0 σ mC kc px 98 from rfl]
    have hq0 := wrd0_q (σ := σ) (mC := mC) (kc := kc) (px := px) (cv := 98)
    have hl0 : ((px + 1, true, []) : oSt).2.2.length = 0 := rfl
    have hp0 : ((px + 1, true, []) : oSt).1 ≤ 60 := by
      show px + 1 ≤ 60
      omega
    have hi0 : oMi (wrd0 σ mC kc px 98) mC nI f := ⟨by unfold wrd0; rw [o_up_nj (Or.inr (by decide)), o_up_ne (by omega), o_up_nj (Or.inr (by decide)), o_up_nj (Or.inr (by decide))]; exact hi.1, hi.2.1, fun j hj => by unfold wrd0; rw [o_up_ne (by omega), o_up_ne (by omega), o_up_ne (by omega), o_up_ne (by omega)]; exact hi.2.2 j hj⟩
    have hkc0 : wrd0 σ mC kc px 98 mC 23 = (kc : Int) := by
      unfold wrd0
      rw [o_up_nj (Or.inr (by decide)), o_up_ne (by omega), o_up_nj (Or.inr (by decide)), o_up_nj (Or.inr (by decide))]
      exact hkc
    refine r_il1 (q := 95) C dX9_command_94 rfl ?_
    refine r_bipush (q := 97) C dX9_command_95 (by decide) rfl ?_
    refine r_icne_t (q := 107) C (by decide) (by omega) (by omega) dX9_command_97 (by decide) ?_
    refine r_al0 (q := 108) C dX9_command_107 rfl ?_
    refine r_callVv (q := 111) C (c_X9_digit (s0 := (px + 1, true, [])) hM hi0 hq0 hkc0 hk60 (by omega) hp0) m_X9_241 (by assumption) (by omega) dX9_command_108 rfl rfl (by decide) (by decide) (Nat.le_of_ble_eq_true rfl) (fun σ5 hq1 => ?_)
    have hl1 : (dgT f nI 1 (px + 1, true, [])).2.2.length = 1 := by rw [dgT_l, hl0]
    have hp1 : (dgT f nI 1 (px + 1, true, [])).1 ≤ 60 := dgT_p hp0 hi.2.1
    obtain ⟨s1q, hs1q⟩ : ∃ sq, sq = dgT f nI 1 (px + 1, true, []) := ⟨_, rfl⟩
    rw [← hs1q] at hq1 hl1 hp1
    refine r_il1 (q := 112) C dX9_command_111 rfl ?_
    refine r_bipush (q := 114) C dX9_command_112 (by decide) rfl ?_
    refine r_icne_t (q := 144) C (by decide) (by omega) (by omega) dX9_command_114 (by decide) ?_
    refine r_il1 (q := 145) C dX9_command_144 rfl ?_
    refine r_bipush (q := 147) C dX9_command_145 (by decide) rfl ?_
    refine r_icne_f (q := 156) (q2 := 150) C (by decide) (by omega) (by omega) dX9_command_147 (by decide) rfl ?_
    refine r_al0 (q := 151) C dX9_command_150 rfl ?_
    refine r_bipush (q := 153) C dX9_command_151 (by decide) rfl ?_
    refine r_callVv (q := 156) C (c_X9_digitBehind (s0 := s1q) (cx := 46) hM hi0 hq1 hkc0 hk60 (by omega) hp1 (by omega)) m_X9_244 (by assumption) (by omega) dX9_command_153 rfl rfl (by decide) (by decide) (Nat.le_of_ble_eq_true rfl) (fun σ6 hq2 => ?_)
    have hl2 : (dgT f nI 1 (tkT f nI 46 s1q)).2.2.length = 2 := by rw [dgT_l, tkT_l, hl1]
    have hp2 : (dgT f nI 1 (tkT f nI 46 s1q)).1 ≤ 60 := dgT_p (tkT_p hp1 hi.2.1) hi.2.1
    obtain ⟨s2q, hs2q⟩ : ∃ sq, sq = dgT f nI 1 (tkT f nI 46 s1q) := ⟨_, rfl⟩
    rw [← hs2q] at hq2 hl2 hp2
    refine r_al0 (q := 157) C dX9_command_156 rfl ?_
    refine r_bipush (q := 159) C dX9_command_157 (by decide) rfl ?_
    refine r_callVv (q := 162) C (c_X9_numberBehind (s0 := s2q) (cx := 58) hM hi0 hq2 hkc0 hk60 (by omega) hp2 (by omega)) m_X9_247 (by assumption) (by omega) dX9_command_159 rfl rfl (by decide) (by decide) (Nat.le_of_ble_eq_true rfl) (fun σ7 hq3 => ?_)
    have hl3 : (dgT f nI 4 (tkT f nI 58 s2q)).2.2.length = 3 := by rw [dgT_l, tkT_l, hl2]
    have hp3 : (dgT f nI 4 (tkT f nI 58 s2q)).1 ≤ 60 := dgT_p (tkT_p hp2 hi.2.1) hi.2.1
    obtain ⟨s3q, hs3q⟩ : ∃ sq, sq = dgT f nI 4 (tkT f nI 58 s2q) := ⟨_, rfl⟩
    rw [← hs3q] at hq3 hl3 hp3
    refine r_il1 (q := 163) C dX9_command_162 rfl ?_
    refine r_bipush (q := 165) C dX9_command_163 (by decide) rfl ?_
    refine r_icne_t (q := 174) C (by decide) (by omega) (by omega) dX9_command_165 (by decide) ?_
    refine r_il1 (q := 175) C dX9_command_174 rfl ?_
    refine r_bipush (q := 177) C dX9_command_175 (by decide) rfl ?_
    refine r_iceq_f (q := 186) (q2 := 180) C (by decide) (by omega) (by omega) dX9_command_177 (by decide) rfl ?_
    refine r_il1 (q := 181) C dX9_command_180 rfl ?_
    refine r_bipush (q := 183) C dX9_command_181 (by decide) rfl ?_
    refine r_icne_t (q := 192) C (by decide) (by omega) (by omega) dX9_command_183 (by decide) ?_
    refine r_il1 (q := 193) C dX9_command_192 rfl ?_
    refine r_bipush (q := 195) C dX9_command_193 (by decide) rfl ?_
    refine r_icne_t (q := 204) C (by decide) (by omega) (by omega) dX9_command_195 (by decide) ?_
    refine r_il1 (q := 205) C dX9_command_204 rfl ?_
    refine r_bipush (q := 207) C dX9_command_205 (by decide) rfl ?_
    refine r_iceq_f (q := 216) (q2 := 210) C (by decide) (by omega) (by omega) dX9_command_207 (by decide) rfl ?_
    refine r_il1 (q := 211) C dX9_command_210 rfl ?_
    refine r_bipush (q := 213) C dX9_command_211 (by decide) rfl ?_
    refine r_icne_f (q := 222) (q2 := 216) C (by decide) (by omega) (by omega) dX9_command_213 (by decide) rfl ?_
    refine r_al0 (q := 217) C dX9_command_216 rfl ?_
    refine r_bipush (q := 219) C dX9_command_217 (by decide) rfl ?_
    refine r_callVv (q := 222) C (c_X9_digitBehind (s0 := s3q) (cx := 61) hM hi0 hq3 hkc0 hk60 (by omega) hp3 (by omega)) m_X9_244 (by assumption) (by omega) dX9_command_219 rfl rfl (by decide) (by decide) (Nat.le_of_ble_eq_true rfl) (fun σ8 hq4 => ?_)
    have hl4 : (dgT f nI 1 (tkT f nI 61 s3q)).2.2.length = 4 := by rw [dgT_l, tkT_l, hl3]
    have hp4 : (dgT f nI 1 (tkT f nI 61 s3q)).1 ≤ 60 := dgT_p (tkT_p hp3 hi.2.1) hi.2.1
    obtain ⟨s4q, hs4q⟩ : ∃ sq, sq = dgT f nI 1 (tkT f nI 61 s3q) := ⟨_, rfl⟩
    rw [← hs4q] at hq4 hl4 hp4
    refine r_il1 (q := 223) C dX9_command_222 rfl ?_
    refine r_bipush (q := 225) C dX9_command_223 (by decide) rfl ?_
    refine r_icne_t (q := 234) C (by decide) (by omega) (by omega) dX9_command_225 (by decide) ?_
    refine r_al0 (q := 235) C dX9_command_234 rfl ?_
    refine r_dup (q := 236) C dX9_command_235 rfl ?_
    refine r_getI (q := 239) C f_X9_82 dX9_command_236 rfl rfl (by assumption) (by omega) ?_
    rw [hq4.2.2.2.1 23 (by decide) (by decide) (by decide), hkc0]
    refine r_iconst (q := 240) C dX9_command_239 rfl ?_
    refine r_iadd (q := 241) C dX9_command_240 rfl ?_
    refine r_putI (q := 244) C fp_X9_82 dX9_command_241 rfl rfl (by assumption) (by omega) ?_
    exact r_vret C hr dX9_command_244 (by decide) (by decide) ⟨rfl, rfl, oMd_end hpx hfx (by decide) (by rw [hs4q, hs3q, hs2q, hs1q]; rfl) hq4⟩
  by_cases ne108 : cv = 108
  · obtain ⟨hpx, hfx⟩ := hlet (by omega)
    rw [ne108] at hfx ⊢
    refine r_il1 (q := 16) C dX9_command_15 rfl ?_
    refine r_bipush (q := 18) C dX9_command_16 (by decide) rfl ?_
    refine r_iceq_f (q := 61) (q2 := 21) C (by decide) (by omega) (by omega) dX9_command_18 (by decide) rfl ?_
    refine r_il1 (q := 22) C dX9_command_21 rfl ?_
    refine r_bipush (q := 24) C dX9_command_22 (by decide) rfl ?_
    refine r_iceq_f (q := 61) (q2 := 27) C (by decide) (by omega) (by omega) dX9_command_24 (by decide) rfl ?_
    refine r_il1 (q := 28) C dX9_command_27 rfl ?_
    refine r_bipush (q := 30) C dX9_command_28 (by decide) rfl ?_
    refine r_iceq_f (q := 61) (q2 := 33) C (by decide) (by omega) (by omega) dX9_command_30 (by decide) rfl ?_
    refine r_il1 (q := 34) C dX9_command_33 rfl ?_
    refine r_bipush (q := 36) C dX9_command_34 (by decide) rfl ?_
    refine r_iceq_f (q := 61) (q2 := 39) C (by decide) (by omega) (by omega) dX9_command_36 (by decide) rfl ?_
    refine r_il1 (q := 40) C dX9_command_39 rfl ?_
    refine r_bipush (q := 42) C dX9_command_40 (by decide) rfl ?_
    refine r_iceq_f (q := 61) (q2 := 45) C (by decide) (by omega) (by omega) dX9_command_42 (by decide) rfl ?_
    refine r_il1 (q := 46) C dX9_command_45 rfl ?_
    refine r_bipush (q := 48) C dX9_command_46 (by decide) rfl ?_
    refine r_iceq_t (q := 61) C (by decide) (by omega) (by omega) dX9_command_48 (by decide) ?_
    refine r_iconst (q := 62) C dX9_command_61 rfl ?_
    refine r_ior (q := 63) (z := 0) C (by decide) dX9_command_62 rfl ?_
    refine r_putZ (q := 66) C fp_X9_94 dX9_command_63 rfl rfl (Or.inl rfl) (by assumption) (by omega) ?_
    refine r_al0 (q := 67) C dX9_command_66 rfl ?_
    refine r_getI (q := 70) C f_X9_94 dX9_command_67 rfl rfl (by assumption) (by omega) ?_
    rw [o_up_at]
    refine r_ifeq_t (q := 74) C rfl (by omega) dX9_command_70 (by decide) ?_
    refine r_al0 (q := 75) C dX9_command_74 rfl ?_
    refine r_getR (q := 78) C f_X9_70 dX9_command_75 rfl rfl (by assumption) (by assumption) (by omega) ?_
    refine r_al0 (q := 79) C dX9_command_78 rfl ?_
    refine r_getI (q := 82) C f_X9_82 dX9_command_79 rfl rfl (by assumption) (by omega) ?_
    refine r_il1 (q := 83) C dX9_command_82 rfl ?_
    rw [o_up_nj (Or.inr (by decide)), o_up_nj (Or.inr (by decide)), hkc]
    refine r_iast (q := 84) C (kc) dX9_command_83 rfl (by assumption) (by omega) (by omega) (by omega) (by decide) ?_
    refine r_al0 (q := 85) C dX9_command_84 rfl ?_
    refine r_dup (q := 86) C dX9_command_85 rfl ?_
    refine r_getI (q := 89) C f_X9_79 dX9_command_86 rfl rfl (by assumption) (by omega) ?_
    rw [o_up_ne (by omega), o_up_nj (Or.inr (by decide)), o_up_nj (Or.inr (by decide)), hpl]
    refine r_iconst (q := 90) C dX9_command_89 rfl ?_
    refine r_iadd (q := 91) C dX9_command_90 rfl ?_
    refine r_putI (q := 94) C fp_X9_79 dX9_command_91 rfl rfl (by assumption) (by omega) ?_
    rw [show o_up (o_up (o_up (o_up σ mC 24 0) mC 27 0) (mC + 15) kc 108) mC 22 ((px : Int) + 1) = wrd0 σ mC kc px 108 from rfl]
    have hq0 := wrd0_q (σ := σ) (mC := mC) (kc := kc) (px := px) (cv := 108)
    have hl0 : ((px + 1, true, []) : oSt).2.2.length = 0 := rfl
    have hp0 : ((px + 1, true, []) : oSt).1 ≤ 60 := by
      show px + 1 ≤ 60
      omega
    have hi0 : oMi (wrd0 σ mC kc px 108) mC nI f := ⟨by unfold wrd0; rw [o_up_nj (Or.inr (by decide)), o_up_ne (by omega), o_up_nj (Or.inr (by decide)), o_up_nj (Or.inr (by decide))]; exact hi.1, hi.2.1, fun j hj => by unfold wrd0; rw [o_up_ne (by omega), o_up_ne (by omega), o_up_ne (by omega), o_up_ne (by omega)]; exact hi.2.2 j hj⟩
    have hkc0 : wrd0 σ mC kc px 108 mC 23 = (kc : Int) := by
      unfold wrd0
      rw [o_up_nj (Or.inr (by decide)), o_up_ne (by omega), o_up_nj (Or.inr (by decide)), o_up_nj (Or.inr (by decide))]
      exact hkc
    refine r_il1 (q := 95) C dX9_command_94 rfl ?_
    refine r_bipush (q := 97) C dX9_command_95 (by decide) rfl ?_
    refine r_icne_t (q := 107) C (by decide) (by omega) (by omega) dX9_command_97 (by decide) ?_
    refine r_al0 (q := 108) C dX9_command_107 rfl ?_
    refine r_callVv (q := 111) C (c_X9_digit (s0 := (px + 1, true, [])) hM hi0 hq0 hkc0 hk60 (by omega) hp0) m_X9_241 (by assumption) (by omega) dX9_command_108 rfl rfl (by decide) (by decide) (Nat.le_of_ble_eq_true rfl) (fun σ5 hq1 => ?_)
    have hl1 : (dgT f nI 1 (px + 1, true, [])).2.2.length = 1 := by rw [dgT_l, hl0]
    have hp1 : (dgT f nI 1 (px + 1, true, [])).1 ≤ 60 := dgT_p hp0 hi.2.1
    obtain ⟨s1q, hs1q⟩ : ∃ sq, sq = dgT f nI 1 (px + 1, true, []) := ⟨_, rfl⟩
    rw [← hs1q] at hq1 hl1 hp1
    refine r_il1 (q := 112) C dX9_command_111 rfl ?_
    refine r_bipush (q := 114) C dX9_command_112 (by decide) rfl ?_
    refine r_icne_f (q := 144) (q2 := 117) C (by decide) (by omega) (by omega) dX9_command_114 (by decide) rfl ?_
    refine r_al0 (q := 118) C dX9_command_117 rfl ?_
    refine r_bipush (q := 120) C dX9_command_118 (by decide) rfl ?_
    refine r_callVv (q := 123) C (c_X9_digitBehind (s0 := s1q) (cx := 58) hM hi0 hq1 hkc0 hk60 (by omega) hp1 (by omega)) m_X9_244 (by assumption) (by omega) dX9_command_120 rfl rfl (by decide) (by decide) (Nat.le_of_ble_eq_true rfl) (fun σ6 hq2 => ?_)
    have hl2 : (dgT f nI 1 (tkT f nI 58 s1q)).2.2.length = 2 := by rw [dgT_l, tkT_l, hl1]
    have hp2 : (dgT f nI 1 (tkT f nI 58 s1q)).1 ≤ 60 := dgT_p (tkT_p hp1 hi.2.1) hi.2.1
    obtain ⟨s2q, hs2q⟩ : ∃ sq, sq = dgT f nI 1 (tkT f nI 58 s1q) := ⟨_, rfl⟩
    rw [← hs2q] at hq2 hl2 hp2
    refine r_al0 (q := 124) C dX9_command_123 rfl ?_
    refine r_bipush (q := 126) C dX9_command_124 (by decide) rfl ?_
    refine r_callVv (q := 129) C (c_X9_digitBehind (s0 := s2q) (cx := 46) hM hi0 hq2 hkc0 hk60 (by omega) hp2 (by omega)) m_X9_244 (by assumption) (by omega) dX9_command_126 rfl rfl (by decide) (by decide) (Nat.le_of_ble_eq_true rfl) (fun σ7 hq3 => ?_)
    have hl3 : (dgT f nI 1 (tkT f nI 46 s2q)).2.2.length = 3 := by rw [dgT_l, tkT_l, hl2]
    have hp3 : (dgT f nI 1 (tkT f nI 46 s2q)).1 ≤ 60 := dgT_p (tkT_p hp2 hi.2.1) hi.2.1
    obtain ⟨s3q, hs3q⟩ : ∃ sq, sq = dgT f nI 1 (tkT f nI 46 s2q) := ⟨_, rfl⟩
    rw [← hs3q] at hq3 hl3 hp3
    refine r_al0 (q := 130) C dX9_command_129 rfl ?_
    refine r_bipush (q := 132) C dX9_command_130 (by decide) rfl ?_
    refine r_callVv (q := 135) C (c_X9_numberBehind (s0 := s3q) (cx := 42) hM hi0 hq3 hkc0 hk60 (by omega) hp3 (by omega)) m_X9_247 (by assumption) (by omega) dX9_command_132 rfl rfl (by decide) (by decide) (Nat.le_of_ble_eq_true rfl) (fun σ8 hq4 => ?_)
    have hl4 : (dgT f nI 4 (tkT f nI 42 s3q)).2.2.length = 4 := by rw [dgT_l, tkT_l, hl3]
    have hp4 : (dgT f nI 4 (tkT f nI 42 s3q)).1 ≤ 60 := dgT_p (tkT_p hp3 hi.2.1) hi.2.1
    obtain ⟨s4q, hs4q⟩ : ∃ sq, sq = dgT f nI 4 (tkT f nI 42 s3q) := ⟨_, rfl⟩
    rw [← hs4q] at hq4 hl4 hp4
    refine r_al0 (q := 136) C dX9_command_135 rfl ?_
    refine r_bipush (q := 138) C dX9_command_136 (by decide) rfl ?_
    refine r_callVv (q := 141) C (c_X9_numberBehind (s0 := s4q) (cx := 47) hM hi0 hq4 hkc0 hk60 (by omega) hp4 (by omega)) m_X9_247 (by assumption) (by omega) dX9_command_138 rfl rfl (by decide) (by decide) (Nat.le_of_ble_eq_true rfl) (fun σ9 hq5 => ?_)
    have hl5 : (dgT f nI 4 (tkT f nI 47 s4q)).2.2.length = 5 := by rw [dgT_l, tkT_l, hl4]
    have hp5 : (dgT f nI 4 (tkT f nI 47 s4q)).1 ≤ 60 := dgT_p (tkT_p hp4 hi.2.1) hi.2.1
    obtain ⟨s5q, hs5q⟩ : ∃ sq, sq = dgT f nI 4 (tkT f nI 47 s4q) := ⟨_, rfl⟩
    rw [← hs5q] at hq5 hl5 hp5
    refine r_goto (q := 234) C dX9_command_141 (by decide) ?_
    refine r_al0 (q := 235) C dX9_command_234 rfl ?_
    refine r_dup (q := 236) C dX9_command_235 rfl ?_
    refine r_getI (q := 239) C f_X9_82 dX9_command_236 rfl rfl (by assumption) (by omega) ?_
    rw [hq5.2.2.2.1 23 (by decide) (by decide) (by decide), hkc0]
    refine r_iconst (q := 240) C dX9_command_239 rfl ?_
    refine r_iadd (q := 241) C dX9_command_240 rfl ?_
    refine r_putI (q := 244) C fp_X9_82 dX9_command_241 rfl rfl (by assumption) (by omega) ?_
    exact r_vret C hr dX9_command_244 (by decide) (by decide) ⟨rfl, rfl, oMd_end hpx hfx (by decide) (by rw [hs5q, hs4q, hs3q, hs2q, hs1q]; rfl) hq5⟩
  by_cases ne114 : cv = 114
  · obtain ⟨hpx, hfx⟩ := hlet (by omega)
    rw [ne114] at hfx ⊢
    refine r_il1 (q := 16) C dX9_command_15 rfl ?_
    refine r_bipush (q := 18) C dX9_command_16 (by decide) rfl ?_
    refine r_iceq_f (q := 61) (q2 := 21) C (by decide) (by omega) (by omega) dX9_command_18 (by decide) rfl ?_
    refine r_il1 (q := 22) C dX9_command_21 rfl ?_
    refine r_bipush (q := 24) C dX9_command_22 (by decide) rfl ?_
    refine r_iceq_f (q := 61) (q2 := 27) C (by decide) (by omega) (by omega) dX9_command_24 (by decide) rfl ?_
    refine r_il1 (q := 28) C dX9_command_27 rfl ?_
    refine r_bipush (q := 30) C dX9_command_28 (by decide) rfl ?_
    refine r_iceq_f (q := 61) (q2 := 33) C (by decide) (by omega) (by omega) dX9_command_30 (by decide) rfl ?_
    refine r_il1 (q := 34) C dX9_command_33 rfl ?_
    refine r_bipush (q := 36) C dX9_command_34 (by decide) rfl ?_
    refine r_iceq_f (q := 61) (q2 := 39) C (by decide) (by omega) (by omega) dX9_command_36 (by decide) rfl ?_
    refine r_il1 (q := 40) C dX9_command_39 rfl ?_
    refine r_bipush (q := 42) C dX9_command_40 (by decide) rfl ?_
    refine r_iceq_f (q := 61) (q2 := 45) C (by decide) (by omega) (by omega) dX9_command_42 (by decide) rfl ?_
    refine r_il1 (q := 46) C dX9_command_45 rfl ?_
    refine r_bipush (q := 48) C dX9_command_46 (by decide) rfl ?_
    refine r_iceq_f (q := 61) (q2 := 51) C (by decide) (by omega) (by omega) dX9_command_48 (by decide) rfl ?_
    refine r_il1 (q := 52) C dX9_command_51 rfl ?_
    refine r_bipush (q := 54) C dX9_command_52 (by decide) rfl ?_
    refine r_iceq_t (q := 61) C (by decide) (by omega) (by omega) dX9_command_54 (by decide) ?_
    refine r_iconst (q := 62) C dX9_command_61 rfl ?_
    refine r_ior (q := 63) (z := 0) C (by decide) dX9_command_62 rfl ?_
    refine r_putZ (q := 66) C fp_X9_94 dX9_command_63 rfl rfl (Or.inl rfl) (by assumption) (by omega) ?_
    refine r_al0 (q := 67) C dX9_command_66 rfl ?_
    refine r_getI (q := 70) C f_X9_94 dX9_command_67 rfl rfl (by assumption) (by omega) ?_
    rw [o_up_at]
    refine r_ifeq_t (q := 74) C rfl (by omega) dX9_command_70 (by decide) ?_
    refine r_al0 (q := 75) C dX9_command_74 rfl ?_
    refine r_getR (q := 78) C f_X9_70 dX9_command_75 rfl rfl (by assumption) (by assumption) (by omega) ?_
    refine r_al0 (q := 79) C dX9_command_78 rfl ?_
    refine r_getI (q := 82) C f_X9_82 dX9_command_79 rfl rfl (by assumption) (by omega) ?_
    refine r_il1 (q := 83) C dX9_command_82 rfl ?_
    rw [o_up_nj (Or.inr (by decide)), o_up_nj (Or.inr (by decide)), hkc]
    refine r_iast (q := 84) C (kc) dX9_command_83 rfl (by assumption) (by omega) (by omega) (by omega) (by decide) ?_
    refine r_al0 (q := 85) C dX9_command_84 rfl ?_
    refine r_dup (q := 86) C dX9_command_85 rfl ?_
    refine r_getI (q := 89) C f_X9_79 dX9_command_86 rfl rfl (by assumption) (by omega) ?_
    rw [o_up_ne (by omega), o_up_nj (Or.inr (by decide)), o_up_nj (Or.inr (by decide)), hpl]
    refine r_iconst (q := 90) C dX9_command_89 rfl ?_
    refine r_iadd (q := 91) C dX9_command_90 rfl ?_
    refine r_putI (q := 94) C fp_X9_79 dX9_command_91 rfl rfl (by assumption) (by omega) ?_
    rw [show o_up (o_up (o_up (o_up σ mC 24 0) mC 27 0) (mC + 15) kc 114) mC 22 ((px : Int) + 1) = wrd0 σ mC kc px 114 from rfl]
    have hq0 := wrd0_q (σ := σ) (mC := mC) (kc := kc) (px := px) (cv := 114)
    have hl0 : ((px + 1, true, []) : oSt).2.2.length = 0 := rfl
    have hp0 : ((px + 1, true, []) : oSt).1 ≤ 60 := by
      show px + 1 ≤ 60
      omega
    have hi0 : oMi (wrd0 σ mC kc px 114) mC nI f := ⟨by unfold wrd0; rw [o_up_nj (Or.inr (by decide)), o_up_ne (by omega), o_up_nj (Or.inr (by decide)), o_up_nj (Or.inr (by decide))]; exact hi.1, hi.2.1, fun j hj => by unfold wrd0; rw [o_up_ne (by omega), o_up_ne (by omega), o_up_ne (by omega), o_up_ne (by omega)]; exact hi.2.2 j hj⟩
    have hkc0 : wrd0 σ mC kc px 114 mC 23 = (kc : Int) := by
      unfold wrd0
      rw [o_up_nj (Or.inr (by decide)), o_up_ne (by omega), o_up_nj (Or.inr (by decide)), o_up_nj (Or.inr (by decide))]
      exact hkc
    refine r_il1 (q := 95) C dX9_command_94 rfl ?_
    refine r_bipush (q := 97) C dX9_command_95 (by decide) rfl ?_
    refine r_icne_f (q := 107) (q2 := 100) C (by decide) (by omega) (by omega) dX9_command_97 (by decide) rfl ?_
    refine r_al0 (q := 101) C dX9_command_100 rfl ?_
    refine r_callVv (q := 104) C (c_X9_number (s0 := (px + 1, true, [])) hM hi0 hq0 hkc0 hk60 (by omega) hp0) m_X9_239 (by assumption) (by omega) dX9_command_101 rfl rfl (by decide) (by decide) (Nat.le_of_ble_eq_true rfl) (fun σ5 hq1 => ?_)
    have hl1 : (dgT f nI 4 (px + 1, true, [])).2.2.length = 1 := by rw [dgT_l, hl0]
    have hp1 : (dgT f nI 4 (px + 1, true, [])).1 ≤ 60 := dgT_p hp0 hi.2.1
    obtain ⟨s1q, hs1q⟩ : ∃ sq, sq = dgT f nI 4 (px + 1, true, []) := ⟨_, rfl⟩
    rw [← hs1q] at hq1 hl1 hp1
    refine r_goto (q := 111) C dX9_command_104 (by decide) ?_
    refine r_il1 (q := 112) C dX9_command_111 rfl ?_
    refine r_bipush (q := 114) C dX9_command_112 (by decide) rfl ?_
    refine r_icne_t (q := 144) C (by decide) (by omega) (by omega) dX9_command_114 (by decide) ?_
    refine r_il1 (q := 145) C dX9_command_144 rfl ?_
    refine r_bipush (q := 147) C dX9_command_145 (by decide) rfl ?_
    refine r_icne_t (q := 156) C (by decide) (by omega) (by omega) dX9_command_147 (by decide) ?_
    refine r_al0 (q := 157) C dX9_command_156 rfl ?_
    refine r_bipush (q := 159) C dX9_command_157 (by decide) rfl ?_
    refine r_callVv (q := 162) C (c_X9_numberBehind (s0 := s1q) (cx := 58) hM hi0 hq1 hkc0 hk60 (by omega) hp1 (by omega)) m_X9_247 (by assumption) (by omega) dX9_command_159 rfl rfl (by decide) (by decide) (Nat.le_of_ble_eq_true rfl) (fun σ6 hq2 => ?_)
    have hl2 : (dgT f nI 4 (tkT f nI 58 s1q)).2.2.length = 2 := by rw [dgT_l, tkT_l, hl1]
    have hp2 : (dgT f nI 4 (tkT f nI 58 s1q)).1 ≤ 60 := dgT_p (tkT_p hp1 hi.2.1) hi.2.1
    obtain ⟨s2q, hs2q⟩ : ∃ sq, sq = dgT f nI 4 (tkT f nI 58 s1q) := ⟨_, rfl⟩
    rw [← hs2q] at hq2 hl2 hp2
    refine r_il1 (q := 163) C dX9_command_162 rfl ?_
    refine r_bipush (q := 165) C dX9_command_163 (by decide) rfl ?_
    refine r_icne_t (q := 174) C (by decide) (by omega) (by omega) dX9_command_165 (by decide) ?_
    refine r_il1 (q := 175) C dX9_command_174 rfl ?_
    refine r_bipush (q := 177) C dX9_command_175 (by decide) rfl ?_
    refine r_iceq_f (q := 186) (q2 := 180) C (by decide) (by omega) (by omega) dX9_command_177 (by decide) rfl ?_
    refine r_il1 (q := 181) C dX9_command_180 rfl ?_
    refine r_bipush (q := 183) C dX9_command_181 (by decide) rfl ?_
    refine r_icne_f (q := 192) (q2 := 186) C (by decide) (by omega) (by omega) dX9_command_183 (by decide) rfl ?_
    refine r_al0 (q := 187) C dX9_command_186 rfl ?_
    refine r_bipush (q := 189) C dX9_command_187 (by decide) rfl ?_
    refine r_callVv (q := 192) C (c_X9_numberBehind (s0 := s2q) (cx := 43) hM hi0 hq2 hkc0 hk60 (by omega) hp2 (by omega)) m_X9_247 (by assumption) (by omega) dX9_command_189 rfl rfl (by decide) (by decide) (Nat.le_of_ble_eq_true rfl) (fun σ7 hq3 => ?_)
    have hl3 : (dgT f nI 4 (tkT f nI 43 s2q)).2.2.length = 3 := by rw [dgT_l, tkT_l, hl2]
    have hp3 : (dgT f nI 4 (tkT f nI 43 s2q)).1 ≤ 60 := dgT_p (tkT_p hp2 hi.2.1) hi.2.1
    obtain ⟨s3q, hs3q⟩ : ∃ sq, sq = dgT f nI 4 (tkT f nI 43 s2q) := ⟨_, rfl⟩
    rw [← hs3q] at hq3 hl3 hp3
    refine r_il1 (q := 193) C dX9_command_192 rfl ?_
    refine r_bipush (q := 195) C dX9_command_193 (by decide) rfl ?_
    refine r_icne_t (q := 204) C (by decide) (by omega) (by omega) dX9_command_195 (by decide) ?_
    refine r_il1 (q := 205) C dX9_command_204 rfl ?_
    refine r_bipush (q := 207) C dX9_command_205 (by decide) rfl ?_
    refine r_iceq_f (q := 216) (q2 := 210) C (by decide) (by omega) (by omega) dX9_command_207 (by decide) rfl ?_
    refine r_il1 (q := 211) C dX9_command_210 rfl ?_
    refine r_bipush (q := 213) C dX9_command_211 (by decide) rfl ?_
    refine r_icne_t (q := 222) C (by decide) (by omega) (by omega) dX9_command_213 (by decide) ?_
    refine r_il1 (q := 223) C dX9_command_222 rfl ?_
    refine r_bipush (q := 225) C dX9_command_223 (by decide) rfl ?_
    refine r_icne_t (q := 234) C (by decide) (by omega) (by omega) dX9_command_225 (by decide) ?_
    refine r_al0 (q := 235) C dX9_command_234 rfl ?_
    refine r_dup (q := 236) C dX9_command_235 rfl ?_
    refine r_getI (q := 239) C f_X9_82 dX9_command_236 rfl rfl (by assumption) (by omega) ?_
    rw [hq3.2.2.2.1 23 (by decide) (by decide) (by decide), hkc0]
    refine r_iconst (q := 240) C dX9_command_239 rfl ?_
    refine r_iadd (q := 241) C dX9_command_240 rfl ?_
    refine r_putI (q := 244) C fp_X9_82 dX9_command_241 rfl rfl (by assumption) (by omega) ?_
    exact r_vret C hr dX9_command_244 (by decide) (by decide) ⟨rfl, rfl, oMd_end hpx hfx (by decide) (by rw [hs3q, hs2q, hs1q]; rfl) hq3⟩
  have hpb : pcP f nI px = (px, none) := by
    by_cases hc : px < nI
    · rw [sgF, if_pos ⟨rfl, hc⟩] at hcv
      rw [pcP, ← hcv, if_neg (fun q => by have h7 := formIx_7 (c := cv) ⟨ne98, ne99, ne105, ne108, ne114, ne116, ne119⟩; omega)]
    · rw [pcP, if_neg (fun q => hc q.1)]
  refine r_il1 (q := 16) C dX9_command_15 rfl ?_
  refine r_bipush (q := 18) C dX9_command_16 (by decide) rfl ?_
  refine r_iceq_f (q := 61) (q2 := 21) C ne99 (by omega) (by omega) dX9_command_18 (by decide) rfl ?_
  refine r_il1 (q := 22) C dX9_command_21 rfl ?_
  refine r_bipush (q := 24) C dX9_command_22 (by decide) rfl ?_
  refine r_iceq_f (q := 61) (q2 := 27) C ne105 (by omega) (by omega) dX9_command_24 (by decide) rfl ?_
  refine r_il1 (q := 28) C dX9_command_27 rfl ?_
  refine r_bipush (q := 30) C dX9_command_28 (by decide) rfl ?_
  refine r_iceq_f (q := 61) (q2 := 33) C ne119 (by omega) (by omega) dX9_command_30 (by decide) rfl ?_
  refine r_il1 (q := 34) C dX9_command_33 rfl ?_
  refine r_bipush (q := 36) C dX9_command_34 (by decide) rfl ?_
  refine r_iceq_f (q := 61) (q2 := 39) C ne116 (by omega) (by omega) dX9_command_36 (by decide) rfl ?_
  refine r_il1 (q := 40) C dX9_command_39 rfl ?_
  refine r_bipush (q := 42) C dX9_command_40 (by decide) rfl ?_
  refine r_iceq_f (q := 61) (q2 := 45) C ne98 (by omega) (by omega) dX9_command_42 (by decide) rfl ?_
  refine r_il1 (q := 46) C dX9_command_45 rfl ?_
  refine r_bipush (q := 48) C dX9_command_46 (by decide) rfl ?_
  refine r_iceq_f (q := 61) (q2 := 51) C ne108 (by omega) (by omega) dX9_command_48 (by decide) rfl ?_
  refine r_il1 (q := 52) C dX9_command_51 rfl ?_
  refine r_bipush (q := 54) C dX9_command_52 (by decide) rfl ?_
  refine r_iceq_f (q := 61) (q2 := 57) C ne114 (by omega) (by omega) dX9_command_54 (by decide) rfl ?_
  refine r_iconst (q := 58) C dX9_command_57 rfl ?_
  refine r_goto (q := 62) C dX9_command_58 (by decide) ?_
  refine r_ior (q := 63) (z := 1) C (by decide) dX9_command_62 rfl ?_
  refine r_putZ (q := 66) C fp_X9_94 dX9_command_63 rfl rfl (Or.inr rfl) (by assumption) (by omega) ?_
  refine r_al0 (q := 67) C dX9_command_66 rfl ?_
  refine r_getI (q := 70) C f_X9_94 dX9_command_67 rfl rfl (by assumption) (by omega) ?_
  rw [o_up_at]
  refine r_ifeq_f (q := 74) (q2 := 73) C (by decide) (by omega) dX9_command_70 (by decide) rfl ?_
  exact r_vret C hr dX9_command_73 (by decide) (by decide) ⟨rfl, rfl, oMd_bad hpl hpb⟩
