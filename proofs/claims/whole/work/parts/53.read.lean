theorem paP_bad {f : Nat → Int} {nI k px : Nat} {acc : List oCmd} (h : (pcP f nI px).2 = none) : paP f nI (k + 1) px acc = (((pcP f nI px).1 : Int), acc) := by
  unfold paP
  rcases hq : pcP f nI px with ⟨qx, oc2⟩
  rw [hq] at h
  obtain rfl : oc2 = none := h
  rfl
theorem paP_ok {f : Nat → Int} {nI k px qx : Nat} {c : oCmd} {acc : List oCmd} (h : pcP f nI px = (qx, some c)) : paP f nI (k + 1) px acc = if nI ≤ qx then (-7, acc ++ [c]) else if f qx = 59 then paP f nI k (qx + 1) (acc ++ [c]) else ((qx : Int), acc ++ [c]) := by
  rw [paP, h]
def bD : Nat → Int → Int
  | 0, v => v
  | k + 1, v => bD k (10 * v + 9)
theorem bD_ge : ∀ (k : Nat) (v : Int), 0 ≤ v → v ≤ bD k v
  | 0, v, _ => Int.le_refl v
  | k + 1, v, h => by
    have := bD_ge k (10 * v + 9) (by omega)
    unfold bD
    omega
theorem dgP_b {f : Nat → Int} {nI : Nat} : ∀ (k px : Nat) (v w : Int), 0 ≤ v → v ≤ w → (dgP f nI k px v).2 ≤ bD k w
  | 0, px, v, w, _, h => h
  | k + 1, px, v, w, h0, h => by
    unfold dgP
    by_cases hc : isDg f nI px
    · rw [if_pos hc]
      obtain ⟨c1, c2, c3⟩ := hc
      exact dgP_b k (px + 1) (10 * v + f px - 48) (10 * w + 9) (by omega) (by omega)
    · rw [if_neg hc]
      have := bD_ge (k + 1) w (by omega)
      show v ≤ bD (k + 1) w
      omega
def dctP (l : List Int) : Nat := l.countP (fun c => decide (c = 100 ∨ c = 110))
theorem prP_ok {f : Nat → Int} {nI : Nat} : ∀ (cs : List Int) (px : Nat) (ns ms : List Int), (prP f nI cs px ns).2 = some ms → (∀ v ∈ ns, 0 ≤ v ∧ v ≤ 9999) → ms.length = ns.length + dctP cs ∧ ∀ v ∈ ms, 0 ≤ v ∧ v ≤ 9999
  | [], px, ns, ms, h, hv => by
    have h2 : some ns = some ms := h
    cases h2
    exact ⟨rfl, hv⟩
  | c :: cs, px, ns, ms, h, hv => by
    unfold prP at h
    unfold dctP
    rw [List.countP_cons]
    by_cases hc : c = 100 ∨ c = 110
    · rw [if_pos hc] at h
      by_cases hd2 : isDg f nI px
      · rw [if_pos hd2] at h
        have hb : 0 ≤ (dgP f nI (if c = 100 then 1 else 4) px 0).2 ∧ (dgP f nI (if c = 100 then 1 else 4) px 0).2 ≤ 9999 := by
          refine ⟨dgP_nn _ _ _ (Int.le_refl 0), ?_⟩
          have h4 := dgP_b (f := f) (nI := nI) (if c = 100 then 1 else 4) px 0 0 (Int.le_refl 0) (Int.le_refl 0)
          have h5 : bD (if c = 100 then 1 else 4) 0 ≤ 9999 := by
            split <;> decide
          omega
        obtain ⟨g1, g2⟩ := prP_ok cs _ _ ms h (fun v hv2 => by
          rcases List.mem_append.mp hv2 with q | q
          · exact hv v q
          · rw [List.mem_singleton.mp q]
            exact hb)
        refine ⟨?_, g2⟩
        rw [List.length_append, List.length_cons, List.length_nil] at g1
        rw [decide_eq_true hc, if_pos rfl]
        unfold dctP at g1
        omega
      · rw [if_neg hd2] at h
        cases h
    · rw [if_neg hc] at h
      rw [decide_eq_false hc, if_neg (by decide)]
      by_cases hd2 : px < nI ∧ f px = c
      · rw [if_pos hd2] at h
        exact prP_ok cs _ _ ms h hv
      · rw [if_neg hd2] at h
        cases h
def okC (c : oCmd) : Prop := formIx c.1 < 7 ∧ c.2.length = dctP (o_sch.getD (formIx c.1) []) ∧ ∀ v ∈ c.2, 0 ≤ v ∧ v ≤ 9999
theorem pcP_ok {f : Nat → Int} {nI px qx : Nat} {c : oCmd} (h : pcP f nI px = (qx, some c)) : okC c := by
  unfold pcP at h
  by_cases hc : px < nI ∧ formIx (f px) < 7
  · rw [if_pos hc] at h
    have h2 := (Prod.mk.inj h).2
    obtain ⟨ns, h3, h4⟩ := Option.map_eq_some_iff.mp h2
    subst h4
    obtain ⟨g1, g2⟩ := prP_ok _ _ _ _ h3 (fun v hv => by cases hv)
    exact ⟨hc.2, by rw [g1]; exact Nat.zero_add _, g2⟩
  · rw [if_neg hc] at h
    cases h
theorem paP_okC {f : Nat → Int} {nI : Nat} : ∀ (k px : Nat) (acc : List oCmd), (∀ c ∈ acc, okC c) → ∀ c ∈ (paP f nI k px acc).2, okC c
  | 0, px, acc, h => h
  | k + 1, px, acc, h => by
    rcases hq : pcP f nI px with ⟨qx, oc2⟩
    cases oc2 with
    | none =>
      rw [paP_bad (by rw [hq])]
      exact h
    | some c =>
      have hok := pcP_ok hq
      have hac : ∀ d ∈ acc ++ [c], okC d := fun d hd2 => by
        rcases List.mem_append.mp hd2 with q | q
        · exact h d q
        · rw [List.mem_singleton.mp q]
          exact hok
      rw [paP_ok hq]
      by_cases h1 : nI ≤ qx
      · rw [if_pos h1]
        exact hac
      · rw [if_neg h1]
        by_cases h2 : f qx = 59
        · rw [if_pos h2]
          exact paP_okC k (qx + 1) _ hac
        · rw [if_neg h2]
          exact hac
/-- what a command does -/
def fDo (A : Nat → Int) (rf : Int) (c : oCmd) : Int × (Nat → Int) × Int :=
  if c.1 = 99 then fCut A rf (c.2.getD 0 0) (c.2.getD 1 0) (c.2.getD 2 0)
  else if c.1 = 105 then fIns A rf (c.2.getD 0 0) (c.2.getD 1 0) (c.2.getD 2 0) (c.2.getD 3 0)
  else if c.1 = 119 then fRew A rf (c.2.getD 0 0) (c.2.getD 1 0) (c.2.getD 2 0)
  else if c.1 = 116 then ((fTempo A (c.2.getD 0 0) (c.2.getD 1 0) (c.2.getD 2 0)).1, (fTempo A (c.2.getD 0 0) (c.2.getD 1 0) (c.2.getD 2 0)).2, rf)
  else if c.1 = 98 then ((fBow A (c.2.getD 0 0) (c.2.getD 1 0) (c.2.getD 2 0) (c.2.getD 3 0)).1, (fBow A (c.2.getD 0 0) (c.2.getD 1 0) (c.2.getD 2 0) (c.2.getD 3 0)).2, rf)
  else if c.1 = 108 then fLend A rf (c.2.getD 0 0) (c.2.getD 1 0) (c.2.getD 2 0) (c.2.getD 3 0) (c.2.getD 4 0)
  else fBring A rf (c.2.getD 0 0) (c.2.getD 1 0) (c.2.getD 2 0)
theorem fDo_I {Bd rf : Int} {A : Nat → Int} {c : oCmd} (h : oI Bd A) (hBd : Bd ≤ 99990000) : oI (Bd + 2700) (fDo A rf c).2.1 := by
  have h1 := h.1
  unfold fDo
  by_cases c1 : c.1 = 99
  · rw [if_pos c1]
    exact oI_grow (fCut_I h) (by omega) (by omega)
  · rw [if_neg c1]
    by_cases c2 : c.1 = 105
    · rw [if_pos c2]
      exact oI_grow (fIns_I h (by omega)) (by omega) (by omega)
    · rw [if_neg c2]
      by_cases c3 : c.1 = 119
      · rw [if_pos c3]
        exact oI_grow (fRew_I h (by omega)) (by omega) (by omega)
      · rw [if_neg c3]
        by_cases c4 : c.1 = 116
        · rw [if_pos c4]
          exact oI_grow (fTempo_I h) (by omega) (by omega)
        · rw [if_neg c4]
          by_cases c5 : c.1 = 98
          · rw [if_pos c5]
            exact oI_grow (fBow_I h) (by omega) (by omega)
          · rw [if_neg c5]
            by_cases c6 : c.1 = 108
            · rw [if_pos c6]
              exact oI_grow (fLend_I h (by omega)) (by omega) (by omega)
            · rw [if_neg c6]
              exact fBring_I h hBd
/-- the commands one after another, up to the first that fails -/
def fRun : List oCmd → Nat → (Nat → Int) → Int → Option Nat × (Nat → Int) × Int
  | [], _, A, rf => (none, A, rf)
  | c :: cs, k, A, rf => if (fDo A rf c).1 < 0 ∧ (fDo A rf c).1 ≠ -7 then (some k, (fDo A rf c).2.1, (fDo A rf c).2.2) else fRun cs (k + 1) (fDo A rf c).2.1 (fDo A rf c).2.2
theorem oPfr_tr {σ σ1 σ2 : oM} {iC : Nat} (h1 : oPfr σ σ1 iC) (h2 : oPfr σ1 σ2 iC) : oPfr σ σ2 iC := ⟨fun x hx => (h2.1 x hx).trans (h1.1 x hx), h2.2.1.trans h1.2.1, fun k k2 k3 => (h2.2.2 k k2 k3).trans (h1.2.2 k k2 k3)⟩
set_option maxRecDepth 20000 in
set_option maxHeartbeats 8000000 in
theorem c_X2_parse {T : oT} {σ : oM} {iC nI : Nat} {f : Nat → Int} (hT2 : oTx T iC) (hI2 : oIn σ iC nI f) : MS yX2_parse cX2_parse 2 (some FieldType.int) 5 0 0 111 [og iC] T σ (oPs (fun zx σ2 => zx = (paP f nI 60 0 []).1 ∧ (∃ qx, oPt σ2 iC nI f qx (paP f nI 60 0 []).2) ∧ oPfr σ σ2 iC) T) := by
  have hTc := hT2
  obtain ⟨hI0, hIr0, hIr4, hIr5, hIs1, hIs2, hIs3, hIrw, hIT⟩ := hTc
  have hn60 := hI2.2.1
  have hsgr : ∀ jx, jx < nI → 32 ≤ f jx ∧ f jx ≤ 126 := fun jx hj => (hI2.2.2 jx hj).2
  refine o_met (by decide +kernel) (Nat.le_of_ble_eq_true rfl) (fun p l ee s m args below meth c G b C hr hn => ?_)
  have C : oCx p s m args meth c G b RX2 cX2_parse 2 := C
  show oW p l ee ({ frames := 5, cells := 0, slots := 0, locals := 111 } : Room) s m args below meth c G b 2 0 0 (MQ below (o_Qc G b (oPs (fun zx σ2 => zx = (paP f nI 60 0 []).1 ∧ (∃ qx, oPt σ2 iC nI f qx (paP f nI 60 0 []).2) ∧ oPfr σ σ2 iC) T)) args s 0 0 (fun q => b ≤ q)) T σ 0 [some (og iC), none] []
  have lp : ∀ (n : Nat) (σ1 : oM) (ix px : Nat) (acc : List oCmd), 60 - ix < n → (ix ≤ 60) → (oPt σ1 iC nI f px acc) → (oPfr σ σ1 iC) → ((paP f nI 60 0 []) = paP f nI (60 - ix) px acc) → (acc.length ≤ px ∧ px ≤ nI) → oW p l ee ({ frames := 5, cells := 0, slots := 0, locals := 111 } : Room) s m args below meth c G b 2 0 0 (MQ below (o_Qc G b (oPs (fun zx σ2 => zx = (paP f nI 60 0 []).1 ∧ (∃ qx, oPt σ2 iC nI f qx (paP f nI 60 0 []).2) ∧ oPfr σ σ2 iC) T)) args s 0 0 (fun q => b ≤ q)) T σ1 12 [some (og iC), some (oi ((ix : Nat) : Int))] [] := by
    intro n
    induction n with
    | zero =>
      intro σ1 ix px acc hms
      exact absurd hms (Nat.not_lt_zero _)
    | succ n ih =>
      intro σ1 ix px acc hms h1 h2 h3 h4 h5
      refine r_il1 (q := 13) C dX2_parse_12 rfl ?_
      refine r_bipush (q := 15) C dX2_parse_13 (by decide) rfl ?_
      refine r_icge (q := 64) (q2 := 18) C (by omega) (by omega) dX2_parse_15 (by decide) rfl (fun br15 => ?_) (fun br15 => ?_)
      · refine r_al0 (q := 65) C dX2_parse_64 rfl ?_
        refine r_getI (q := 68) C f_X2_30 dX2_parse_65 rfl rfl (by assumption) (by omega) ?_
        rw [h2.2.1]
        refine r_iret C hr dX2_parse_68 (by decide) (by decide) ?_
        have hfin : (paP f nI 60 0 []) = ((px : Int), acc) := by rw [h4, show 60 - ix = 0 by omega]; rfl
        exact ⟨_, rfl, rfl, by rw [hfin], ⟨_, by rw [hfin]; exact h2⟩, h3⟩
      · refine r_al0 (q := 19) C dX2_parse_18 rfl ?_
        have hple := pcP_le (f := f) (nI := nI) (px := px)
        have hsx : 60 - ix = (60 - (ix + 1)) + 1 := by omega
        refine r_callVB (q := 22) C (c_X2_parseCommand hT2 h2 hn60 h5.2 h5.1 hsgr) m_X2_33 (by assumption) (by omega) dX2_parse_19 rfl rfl (by decide) (by decide) (Nat.le_of_ble_eq_true rfl) (fun σ2 hσ2 => ?_) (fun σ2 hσ2 => ?_)
        · refine r_ifne_t (q := 30) C (by decide) (by omega) dX2_parse_22 (by decide) ?_
          obtain ⟨ns, hpc, hP, hF⟩ := hσ2
          have hlt := hple.2.2 (by rw [hpc]; exact fun hc => by cases hc)
          have hle := hple.2.1 h5.2
          have hpk := paP_ok (k := 60 - (ix + 1)) (acc := acc) hpc
          rw [← hsx, ← h4] at hpk
          refine r_al0 (q := 31) C dX2_parse_30 rfl ?_
          refine r_getI (q := 34) C f_X2_30 dX2_parse_31 rfl rfl (by assumption) (by omega) ?_
          rw [hP.2.1]
          refine r_al0 (q := 35) C dX2_parse_34 rfl ?_
          refine r_getI (q := 38) C f_X2_23 dX2_parse_35 rfl rfl (by assumption) (by omega) ?_
          rw [hP.1]
          refine r_iclt (q := 44) (q2 := 41) C (by omega) (by omega) dX2_parse_38 (by decide) rfl (fun br38 => ?_) (fun br38 => ?_)
          · rw [if_neg (by omega)] at hpk
            refine r_al0 (q := 45) C dX2_parse_44 rfl ?_
            refine r_bipush (q := 47) C dX2_parse_45 (by decide) rfl ?_
            refine r_callVB (q := 50) C (c_X2_accept (px := (pcP f nI px).1) (nI := nI) (f := f) (cx := 59) hT2 hP.1 hn60 hP.2.1 hle (fun jx hj => ⟨hP.2.2.2.1 jx hj, hsgr jx hj⟩) (by omega)) m_X2_37 (by assumption) (by omega) dX2_parse_47 rfl rfl (by decide) (by decide) (Nat.le_of_ble_eq_true rfl) (fun σ3 hσ3 => ?_) (fun σ3 hσ3 => ?_)
            · refine r_ifne_t (q := 58) C (by decide) (by omega) dX2_parse_50 (by decide) ?_
              obtain ⟨⟨g1, g2⟩, rfl⟩ := hσ3
              rw [if_pos g2] at hpk
              refine r_iinc1 (q := 61) C dX2_parse_58 rfl (by decide) ?_
              refine r_goto (q := 12) C dX2_parse_61 (by decide) ?_
              exact ih _ (ix + 1) ((pcP f nI px).1 + 1) (acc ++ [(f px, ns)]) (by omega) (by omega) ⟨by rw [o_up_nj (Or.inr (by decide))]; exact hP.1, o_up_at, by rw [o_up_nj (Or.inr (by decide))]; exact hP.2.2.1, fun jx hj => by rw [o_up_ne (by omega)]; exact hP.2.2.2.1 jx hj, fun kx c hc => by rw [o_up_ne (by omega), o_up_ne (by omega)]; exact hP.2.2.2.2 kx c hc⟩ (oPfr_tr h3 (oPfr_tr hF ⟨fun x hx => o_up_ne (by omega), o_up_ne (by omega), fun k k2 _ => o_up_nj (Or.inr k2)⟩)) hpk ⟨by rw [List.length_append, List.length_cons, List.length_nil]; omega, by omega⟩
            · refine r_ifne_f (q := 58) (q2 := 53) C (by decide) (by omega) dX2_parse_50 (by decide) rfl ?_
              refine r_al0 (q := 54) C dX2_parse_53 rfl ?_
              refine r_getI (q := 57) C f_X2_30 dX2_parse_54 rfl rfl (by assumption) (by omega) ?_
              obtain ⟨hno, rfl⟩ := hσ3
              rw [hP.2.1]
              refine r_iret C hr dX2_parse_57 (by decide) (by decide) ?_
              have hfin : (paP f nI 60 0 []) = (((pcP f nI px).1 : Int), acc ++ [(f px, ns)]) := by rw [hpk, if_neg (fun hc => hno ⟨by omega, hc⟩)]
              exact ⟨_, rfl, rfl, by rw [hfin], ⟨_, by rw [hfin]; exact hP⟩, oPfr_tr h3 hF⟩
          · refine r_bipush (q := 43) C dX2_parse_41 (by decide) rfl ?_
            refine r_iret C hr dX2_parse_43 (by decide) (by decide) ?_
            have hfin : (paP f nI 60 0 []) = (-7, acc ++ [(f px, ns)]) := by rw [hpk, if_pos (by omega)]
            exact ⟨_, rfl, rfl, by rw [hfin], ⟨_, by rw [hfin]; exact hP⟩, oPfr_tr h3 hF⟩
        · refine r_ifne_f (q := 30) (q2 := 25) C (by decide) (by omega) dX2_parse_22 (by decide) rfl ?_
          refine r_al0 (q := 26) C dX2_parse_25 rfl ?_
          refine r_getI (q := 29) C f_X2_30 dX2_parse_26 rfl rfl (by assumption) (by omega) ?_
          obtain ⟨hn0, hP, hF⟩ := hσ2
          rw [hP.2.1]
          refine r_iret C hr dX2_parse_29 (by decide) (by decide) ?_
          have hfin : (paP f nI 60 0 []) = (((pcP f nI px).1 : Int), acc) := by rw [h4, hsx]; exact paP_bad hn0
          exact ⟨_, rfl, rfl, by rw [hfin], ⟨_, by rw [hfin]; exact hP⟩, oPfr_tr h3 hF⟩
  refine r_al0 (q := 1) C dX2_parse_0 rfl ?_
  refine r_iconst (q := 2) C dX2_parse_1 rfl ?_
  refine r_putI (q := 5) C fp_X2_27 dX2_parse_2 rfl rfl (by assumption) (by omega) ?_
  refine r_al0 (q := 6) C dX2_parse_5 rfl ?_
  refine r_iconst (q := 7) C dX2_parse_6 rfl ?_
  refine r_putI (q := 10) C fp_X2_30 dX2_parse_7 rfl rfl (by assumption) (by omega) ?_
  refine r_iconst (q := 11) C dX2_parse_10 rfl ?_
  refine r_is1 (q := 12) C dX2_parse_11 rfl (by decide) ?_
  exact lp _ _ 0 0 [] (Nat.lt_succ_self _) (Nat.zero_le _) ⟨by rw [o_up_nj (Or.inr (by decide)), o_up_nj (Or.inr (by decide))]; exact hI2.1, o_up_at, by rw [o_up_nj (Or.inr (by decide)), o_up_at]; rfl, fun jx hj => by rw [o_up_ne (by omega), o_up_ne (by omega)]; exact (hI2.2.2 jx hj).1, fun kx c hc => by simp at hc⟩ ⟨fun x hx => by rw [o_up_ne (by omega), o_up_ne (by omega)], by rw [o_up_ne (by omega), o_up_ne (by omega)], fun k k2 k3 => by rw [o_up_nj (Or.inr k2), o_up_nj (Or.inr k3)]⟩ rfl ⟨Nat.zero_le _, Nat.zero_le _⟩
