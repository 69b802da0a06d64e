/-! the reference: its text -/
abbrev oSt : Type := Nat × Bool × List Int
def flB (ok : Bool) : Int := if ok = true then 0 else 1
theorem flB_r (ok : Bool) : flB ok = 0 ∨ flB ok = 1 := by cases ok <;> decide
theorem flB_t : flB true = 0 := rfl
theorem flB_f : flB false = 1 := rfl
def sgF (f : Nat → Int) (nI px : Nat) (ok : Bool) : Int := if ok = true ∧ px < nI then f px else -1
def tkT (f : Nat → Int) (nI : Nat) (c : Int) (s : oSt) : oSt := if s.2.1 = true ∧ s.1 < nI ∧ f s.1 = c then (s.1 + 1, true, s.2.2) else (s.1, false, s.2.2)
def dgT (f : Nat → Int) (nI mx : Nat) (s : oSt) : oSt := if s.2.1 = true ∧ isDg f nI s.1 then ((dgP f nI mx s.1 0).1, true, s.2.2 ++ [(dgP f nI mx s.1 0).2]) else (s.1, false, s.2.2 ++ [0])
def prM (f : Nat → Int) (nI : Nat) : List Int → oSt → oSt
  | [], s => s
  | c :: cs, s => prM f nI cs (if c = 100 ∨ c = 110 then dgT f nI (if c = 100 then 1 else 4) s else tkT f nI c s)
theorem prM_bad {f : Nat → Int} {nI : Nat} : ∀ (cs : List Int) (s : oSt), s.2.1 = false → (prM f nI cs s).1 = s.1 ∧ (prM f nI cs s).2.1 = false
  | [], s, h => ⟨rfl, h⟩
  | c :: cs, s, h => by
    unfold prM
    by_cases hc : c = 100 ∨ c = 110
    · rw [if_pos hc]
      have e : dgT f nI (if c = 100 then 1 else 4) s = (s.1, false, s.2.2 ++ [0]) := if_neg (fun q => by rw [h] at q; exact absurd q.1 (by decide))
      rw [e]
      exact prM_bad cs _ rfl
    · rw [if_neg hc]
      have e : tkT f nI c s = (s.1, false, s.2.2) := if_neg (fun q => by rw [h] at q; exact absurd q.1 (by decide))
      rw [e]
      exact prM_bad cs _ rfl
theorem prM_ok {f : Nat → Int} {nI : Nat} : ∀ (cs : List Int) (px : Nat) (ns : List Int), match (prP f nI cs px ns).2 with
    | some ms => prM f nI cs (px, true, ns) = ((prP f nI cs px ns).1, true, ms)
    | none => (prM f nI cs (px, true, ns)).1 = (prP f nI cs px ns).1 ∧ (prM f nI cs (px, true, ns)).2.1 = false
  | [], px, ns => rfl
  | c :: cs, px, ns => by
    unfold prP prM
    by_cases hc : c = 100 ∨ c = 110
    · rw [if_pos hc, if_pos hc]
      by_cases hd2 : isDg f nI px
      · rw [if_pos hd2]
        have e : dgT f nI (if c = 100 then 1 else 4) (px, true, ns) = ((dgP f nI (if c = 100 then 1 else 4) px 0).1, true, ns ++ [(dgP f nI (if c = 100 then 1 else 4) px 0).2]) := if_pos ⟨rfl, hd2⟩
        rw [e]
        exact prM_ok cs _ _
      · rw [if_neg hd2]
        have e : dgT f nI (if c = 100 then 1 else 4) (px, true, ns) = (px, false, ns ++ [0]) := if_neg (fun q => hd2 q.2)
        rw [e]
        exact prM_bad cs _ rfl
    · rw [if_neg hc, if_neg hc]
      by_cases hd2 : px < nI ∧ f px = c
      · rw [if_pos hd2]
        have e : tkT f nI c (px, true, ns) = (px + 1, true, ns) := if_pos ⟨rfl, hd2⟩
        rw [e]
        exact prM_ok cs _ _
      · rw [if_neg hd2]
        have e : tkT f nI c (px, true, ns) = (px, false, ns) := if_neg (fun q => hd2 q.2)
        rw [e]
        exact prM_bad cs _ rfl
theorem tkT_l {f : Nat → Int} {nI : Nat} {c : Int} {s : oSt} : (tkT f nI c s).2.2 = s.2.2 := by
  unfold tkT
  split <;> rfl
theorem dgT_l {f : Nat → Int} {nI mx : Nat} {s : oSt} : (dgT f nI mx s).2.2.length = s.2.2.length + 1 := by
  unfold dgT
  split
  · rw [List.length_append]
    rfl
  · rw [List.length_append]
    rfl
/-- the input of the reference -/
def oMi (σ : oM) (mC nI : Nat) (f : Nat → Int) : Prop := σ mC 21 = (nI : Int) ∧ nI ≤ 60 ∧ ∀ j, j < nI → σ (mC + 14) j = f j ∧ 32 ≤ f j ∧ f j ≤ 126
/-- in the midst of a command -/
def oMq (σ0 σ1 : oM) (mC kc : Nat) (s : oSt) : Prop := σ1 mC 22 = (s.1 : Int) ∧ σ1 mC 27 = flB s.2.1 ∧ σ1 mC 24 = (s.2.2.length : Int) ∧ (∀ k, k ≠ 22 → k ≠ 24 → k ≠ 27 → σ1 mC k = σ0 mC k) ∧ (∀ (j : Nat) (v : Int), s.2.2[j]? = some v → σ1 (mC + 16) (5 * kc + j) = v) ∧ (∀ j, j < 5 * kc → σ1 (mC + 16) j = σ0 (mC + 16) j) ∧ ∀ x, x ≠ mC → x ≠ mC + 16 → σ1 x = σ0 x
theorem oMi_q {σ0 σ1 : oM} {mC kc nI : Nat} {f : Nat → Int} {s : oSt} (h : oMi σ0 mC nI f) (hq : oMq σ0 σ1 mC kc s) : oMi σ1 mC nI f :=
  ⟨by rw [hq.2.2.2.1 21 (by decide) (by decide) (by decide)]; exact h.1, h.2.1, fun j hj => by rw [hq.2.2.2.2.2.2 (mC + 14) (by omega) (by omega)]; exact h.2.2 j hj⟩
def mSt (σ : oM) (mC px : Nat) (ok : Bool) : oM := o_up (o_up σ mC 27 (flB ok)) mC 22 (px : Int)
theorem mSt_22 {σ : oM} {mC px : Nat} {ok : Bool} : mSt σ mC px ok mC 22 = (px : Int) := o_up_at
theorem mSt_27 {σ : oM} {mC px : Nat} {ok : Bool} : mSt σ mC px ok mC 27 = flB ok := by
  unfold mSt
  rw [o_up_nj (Or.inr (by decide)), o_up_at]
theorem mSt_k {σ : oM} {mC px k : Nat} {ok : Bool} (h1 : k ≠ 22) (h2 : k ≠ 27) : mSt σ mC px ok mC k = σ mC k := by
  unfold mSt
  rw [o_up_nj (Or.inr h1), o_up_nj (Or.inr h2)]
theorem mSt_ne {σ : oM} {mC px x : Nat} {ok : Bool} (h : x ≠ mC) : mSt σ mC px ok x = σ x := by
  unfold mSt
  rw [o_up_ne h, o_up_ne h]
theorem mSt_mk {σ σ2 : oM} {mC px : Nat} {ok : Bool} (h1 : σ2 mC 22 = (px : Int)) (h2 : σ2 mC 27 = flB ok) (h3 : ∀ k, k ≠ 22 → k ≠ 27 → σ2 mC k = σ mC k) (h4 : ∀ x, x ≠ mC → σ2 x = σ x) : σ2 = mSt σ mC px ok := by
  funext x
  by_cases hx : x = mC
  · subst hx
    funext k
    by_cases k1x : k = 22
    · rw [k1x, mSt_22, h1]
    · by_cases k2x : k = 27
      · rw [k2x, mSt_27, h2]
      · rw [mSt_k k1x k2x, h3 k k1x k2x]
  · rw [mSt_ne hx, h4 x hx]
theorem oMq_st {σ0 σ1 : oM} {mC kc : Nat} {s : oSt} {px : Nat} {ok : Bool} (hq : oMq σ0 σ1 mC kc s) : oMq σ0 (mSt σ1 mC px ok) mC kc (px, ok, s.2.2) :=
  ⟨mSt_22, mSt_27, by rw [mSt_k (by decide) (by decide)]; exact hq.2.2.1, fun k k1x k2x k3x => by rw [mSt_k k1x k3x]; exact hq.2.2.2.1 k k1x k2x k3x, fun j v hv => by rw [mSt_ne (by omega)]; exact hq.2.2.2.2.1 j v hv, fun j hj => by rw [mSt_ne (by omega)]; exact hq.2.2.2.2.2.1 j hj, fun x x1 x2 => by rw [mSt_ne x1]; exact hq.2.2.2.2.2.2 x x1 x2⟩
theorem oMq_lay {σ0 σ1 : oM} {mC kc : Nat} {s : oSt} {v : Int} (hq : oMq σ0 σ1 mC kc s) : oMq σ0 (o_up (o_up σ1 (mC + 16) (5 * kc + s.2.2.length) v) mC 24 ((s.2.2.length : Int) + 1)) mC kc (s.1, s.2.1, s.2.2 ++ [v]) := by
  obtain ⟨q1, q2, q3, q4, q5, q6, q7⟩ := hq
  refine ⟨by rw [o_up_nj (Or.inr (by decide)), o_up_ne (by omega)]; exact q1, by rw [o_up_nj (Or.inr (by decide)), o_up_ne (by omega)]; exact q2, by rw [o_up_at, List.length_append]; rfl, fun k k1x k2x k3x => by rw [o_up_nj (Or.inr k2x), o_up_ne (by omega)]; exact q4 k k1x k2x k3x, fun j w hw => ?_, fun j hj => by rw [o_up_ne (by omega), o_up_nj (Or.inr (by omega))]; exact q6 j hj, fun x x1 x2 => by rw [o_up_ne x1, o_up_ne x2]; exact q7 x x1 x2⟩
  rw [o_up_ne (by omega)]
  have hw2 : (s.2.2 ++ [v])[j]? = some w := hw
  by_cases hc : j < s.2.2.length
  · rw [List.getElem?_append_left hc] at hw2
    rw [o_up_nj (Or.inr (by omega))]
    exact q5 j w hw2
  · rw [List.getElem?_append_right (by omega)] at hw2
    have hj := (List.getElem?_eq_some_iff.mp hw2).1
    rw [List.length_cons, List.length_nil] at hj
    have hj2 : j = s.2.2.length := by omega
    subst hj2
    rw [Nat.sub_self] at hw2
    cases hw2
    exact o_up_at
set_option maxRecDepth 20000 in
set_option maxHeartbeats 8000000 in
theorem c_X9_sign {T : oT} {σ : oM} {mC : Nat} (hM : oMm T mC) {nI px : Nat} {f : Nat → Int} {ok : Bool} (hi : oMi σ mC nI f) (hpl : σ mC 22 = (px : Int)) (hfl : σ mC 27 = flB ok) (hpx6 : px ≤ 60) : MS yX9_sign cX9_sign 1 (some FieldType.int) 0 0 0 0 [og mC] T σ (oP1 (oi (sgF f nI px ok)) T σ) := by
  have hMc := hM
  obtain ⟨hM0, hMr0, hMr1, hMr2, hMr3, hMr8, hMr9, hMr10, hMr11, hMr13, hMr14, hMr15, hMr16, hMr17, hMr18, hMr19, hMr20, hMk1, hMk2, hMk3, hMk4, hMk5, hMk6, hMk7, hMk8, hMk9, hMk10, hMk11, hMk12, hMk13, hMk14, hMk15, hMk16, hMT⟩ := hMc
  have hflr := flB_r ok
  have hn60 := hi.2.1
  refine o_met (by decide +kernel) (Nat.le_of_ble_eq_true rfl) (fun p l ee s m args below meth c G b C hr hn => ?_)
  have C : oCx p s m args meth c G b RX9 cX9_sign 1 := C
  show oW p l ee ({ frames := 0, cells := 0, slots := 0, locals := 0 } : Room) s m args below meth c G b 1 0 0 (MQ below (o_Qc G b (oP1 (oi (sgF f nI px ok)) T σ)) args s 0 0 (fun q => b ≤ q)) T σ 0 [some (og mC)] []
  refine r_al0 (q := 1) C dX9_sign_0 rfl ?_
  refine r_getI (q := 4) C f_X9_94 dX9_sign_1 rfl rfl (by assumption) (by omega) ?_
  rw [hfl]
  refine r_ifne (q := 30) (q2 := 7) C (by omega) dX9_sign_4 (by decide) rfl (fun br4 => ?_) (fun br4 => ?_)
  · 
    refine r_iconst (q := 31) C dX9_sign_30 rfl ?_
    exact r_iret C hr dX9_sign_31 (by decide) (by decide) ⟨by rw [sgF, if_neg (fun hc => by rw [hc.1] at br4; exact br4 rfl)], rfl, rfl⟩
  · refine r_al0 (q := 8) C dX9_sign_7 rfl ?_
    refine r_getI (q := 11) C f_X9_79 dX9_sign_8 rfl rfl (by assumption) (by omega) ?_
    rw [hpl]
    refine r_al0 (q := 12) C dX9_sign_11 rfl ?_
    refine r_getI (q := 15) C f_X9_76 dX9_sign_12 rfl rfl (by assumption) (by omega) ?_
    rw [hi.1]
    refine r_icge (q := 30) (q2 := 18) C (by omega) (by omega) dX9_sign_15 (by decide) rfl (fun br15 => ?_) (fun br15 => ?_)
    · refine r_iconst (q := 31) C dX9_sign_30 rfl ?_
      exact r_iret C hr dX9_sign_31 (by decide) (by decide) ⟨by rw [sgF, if_neg (fun hc => by have := hc.2; omega)], rfl, rfl⟩
    · refine r_al0 (q := 19) C dX9_sign_18 rfl ?_
      refine r_getR (q := 22) C f_X9_67 dX9_sign_19 rfl rfl (by assumption) (by assumption) (by omega) ?_
      refine r_al0 (q := 23) C dX9_sign_22 rfl ?_
      refine r_getI (q := 26) C f_X9_79 dX9_sign_23 rfl rfl (by assumption) (by omega) ?_
      rw [hpl]
      have hij := hi.2.2 px (by omega)
      refine r_iald (q := 27) C (px) dX9_sign_26 rfl (by assumption) (by omega) (by omega) (by omega) (by decide) ?_
      refine r_goto (q := 31) C dX9_sign_27 (by decide) ?_
      rw [hij.1]
      exact r_iret C hr dX9_sign_31 (by decide) (by decide) ⟨by rw [sgF, if_pos ⟨by cases ok; exact absurd br4 (by decide); rfl, by omega⟩], rfl, rfl⟩
theorem sgF_r {f : Nat → Int} {nI px : Nat} {ok : Bool} (h : ∀ j, j < nI → 32 ≤ f j ∧ f j ≤ 126) : -1 ≤ sgF f nI px ok ∧ sgF f nI px ok ≤ 126 := by
  unfold sgF
  split
  · rename_i hc
    have := h px hc.2
    omega
  · omega
set_option maxRecDepth 20000 in
set_option maxHeartbeats 8000000 in
theorem c_X9_takes {T : oT} {σ : oM} {mC : Nat} (hM : oMm T mC) {nI px : Nat} {f : Nat → Int} {ok : Bool} (hi : oMi σ mC nI f) (hpl : σ mC 22 = (px : Int)) (hfl : σ mC 27 = flB ok) (hpx6 : px ≤ 60) {cx : Int} (hcx : 0 ≤ cx ∧ cx ≤ 65535) : MS yX9_takes cX9_takes 2 none 1 0 0 20 [og mC, oi cx] T σ (oPv (fun σ2 => σ2 = mSt σ mC (tkT f nI cx (px, ok, [])).1 (tkT f nI cx (px, ok, [])).2.1) T) := by
  have hMc := hM
  obtain ⟨hM0, hMr0, hMr1, hMr2, hMr3, hMr8, hMr9, hMr10, hMr11, hMr13, hMr14, hMr15, hMr16, hMr17, hMr18, hMr19, hMr20, hMk1, hMk2, hMk3, hMk4, hMk5, hMk6, hMk7, hMk8, hMk9, hMk10, hMk11, hMk12, hMk13, hMk14, hMk15, hMk16, hMT⟩ := hMc
  have hflr := flB_r ok
  have hn60 := hi.2.1
  have hsr := sgF_r (px := px) (ok := ok) (fun j hj => (hi.2.2 j hj).2)
  refine o_met (by decide +kernel) (Nat.le_of_ble_eq_true rfl) (fun p l ee s m args below meth c G b C hr hn => ?_)
  have C : oCx p s m args meth c G b RX9 cX9_takes 2 := C
  show oW p l ee ({ frames := 1, cells := 0, slots := 0, locals := 20 } : Room) s m args below meth c G b 2 0 0 (MQ below (o_Qc G b (oPv (fun σ2 => σ2 = mSt σ mC (tkT f nI cx (px, ok, [])).1 (tkT f nI cx (px, ok, [])).2.1) T)) args s 0 0 (fun q => b ≤ q)) T σ 0 [some (og mC), some (oi cx)] []
  refine r_al0 (q := 1) C dX9_takes_0 rfl ?_
  refine r_dup (q := 2) C dX9_takes_1 rfl ?_
  refine r_getI (q := 5) C f_X9_94 dX9_takes_2 rfl rfl (by assumption) (by omega) ?_
  rw [hfl]
  refine r_al0 (q := 6) C dX9_takes_5 rfl ?_
  refine r_callV1 (q := 9) C (c_X9_sign hM hi hpl hfl hpx6) m_X9_225 (by assumption) (by omega) dX9_takes_6 rfl rfl (by decide) (by decide) (Nat.le_of_ble_eq_true rfl) ?_
  refine r_il1 (q := 10) C dX9_takes_9 rfl ?_
  refine r_iceq (q := 17) (q2 := 13) C (by omega) (by omega) dX9_takes_10 (by decide) rfl (fun br10 => ?_) (fun br10 => ?_)
  · refine r_iconst (q := 18) C dX9_takes_17 rfl ?_
    refine r_ior (q := 19) (z := (flB ok)) C (by rcases hflr with h | h <;> rw [h] <;> decide) dX9_takes_18 rfl ?_
    refine r_putZ (q := 22) C fp_X9_94 dX9_takes_19 rfl rfl hflr (by assumption) (by omega) ?_
    refine r_al0 (q := 23) C dX9_takes_22 rfl ?_
    refine r_getI (q := 26) C f_X9_94 dX9_takes_23 rfl rfl (by assumption) (by omega) ?_
    rw [o_up_at]
    refine r_ifne (q := 39) (q2 := 29) C (by omega) dX9_takes_26 (by decide) rfl (fun br26 => ?_) (fun br26 => ?_)
    · have hok : ok = false := by
        cases ok
        · rfl
        · exact absurd rfl br26
      have e : tkT f nI cx (px, ok, []) = (px, false, []) := if_neg (fun hc => by rw [hok] at hc; exact absurd (show false = true from hc.1) (by decide))
      exact r_vret C hr dX9_takes_39 (by decide) (by decide) ⟨rfl, rfl, by rw [e]; exact mSt_mk (by rw [o_up_nj (Or.inr (by decide))]; exact hpl) (by rw [o_up_at, hok]) (fun k k1x k2x => o_up_nj (Or.inr k2x)) (fun x hx => o_up_ne hx)⟩
    · refine r_al0 (q := 30) C dX9_takes_29 rfl ?_
      refine r_dup (q := 31) C dX9_takes_30 rfl ?_
      refine r_getI (q := 34) C f_X9_79 dX9_takes_31 rfl rfl (by assumption) (by omega) ?_
      rw [o_up_nj (Or.inr (by decide)), hpl]
      refine r_iconst (q := 35) C dX9_takes_34 rfl ?_
      refine r_iadd (q := 36) C dX9_takes_35 rfl ?_
      refine r_putI (q := 39) C fp_X9_79 dX9_takes_36 rfl rfl (by assumption) (by omega) ?_
      have hok : ok = true := by
        cases ok
        · exact absurd br26 (by decide)
        · rfl
      have hpx : px < nI := by
        by_cases hc : px < nI
        · exact hc
        · rw [sgF, if_neg (fun q => hc q.2)] at br10
          omega
      have hfx : f px = cx := by
        rw [sgF, if_pos ⟨hok, hpx⟩] at br10
        exact br10
      have e : tkT f nI cx (px, ok, []) = (px + 1, true, []) := if_pos ⟨hok, hpx, hfx⟩
      exact r_vret C hr dX9_takes_39 (by decide) (by decide) ⟨rfl, rfl, by rw [e]; exact mSt_mk o_up_at (by rw [o_up_nj (Or.inr (by decide)), o_up_at, hok]) (fun k k1x k2x => by rw [o_up_nj (Or.inr k1x), o_up_nj (Or.inr k2x)]) (fun x hx => by rw [o_up_ne hx, o_up_ne hx])⟩
  · refine r_iconst (q := 14) C dX9_takes_13 rfl ?_
    refine r_goto (q := 18) C dX9_takes_14 (by decide) ?_
    refine r_ior (q := 19) (z := 1) C (by rcases hflr with h | h <;> rw [h] <;> decide) dX9_takes_18 rfl ?_
    refine r_putZ (q := 22) C fp_X9_94 dX9_takes_19 rfl rfl (Or.inr rfl) (by assumption) (by omega) ?_
    refine r_al0 (q := 23) C dX9_takes_22 rfl ?_
    refine r_getI (q := 26) C f_X9_94 dX9_takes_23 rfl rfl (by assumption) (by omega) ?_
    rw [o_up_at]
    refine r_ifne (q := 39) (q2 := 29) C (by omega) dX9_takes_26 (by decide) rfl (fun br26 => ?_) (fun br26 => ?_)
    · exact r_vret C hr dX9_takes_39 (by decide) (by decide) ⟨rfl, rfl, by have e : tkT f nI cx (px, ok, []) = (px, false, []) := if_neg (fun hc => br10 (by rw [sgF, if_pos ⟨hc.1, hc.2.1⟩]; exact hc.2.2)); rw [e]; exact mSt_mk (by rw [o_up_nj (Or.inr (by decide))]; exact hpl) o_up_at (fun k k1x k2x => o_up_nj (Or.inr k2x)) (fun x hx => o_up_ne hx)⟩
    · exact absurd br26 (by decide)
set_option maxRecDepth 20000 in
set_option maxHeartbeats 8000000 in
theorem c_X9_lays {T : oT} {σ : oM} {mC : Nat} (hM : oMm T mC) {kc an : Nat} (hk : σ mC 23 = (kc : Int)) (ha : σ mC 24 = (an : Int)) (hka : 5 * kc + an < 300) {v : Int} : MS yX9_lays cX9_lays 2 none 0 0 0 0 [og mC, oi v] T σ (oPv (fun σ2 => σ2 = o_up (o_up σ (mC + 16) (5 * kc + an) v) mC 24 ((an : Int) + 1)) T) := by
  have hMc := hM
  obtain ⟨hM0, hMr0, hMr1, hMr2, hMr3, hMr8, hMr9, hMr10, hMr11, hMr13, hMr14, hMr15, hMr16, hMr17, hMr18, hMr19, hMr20, hMk1, hMk2, hMk3, hMk4, hMk5, hMk6, hMk7, hMk8, hMk9, hMk10, hMk11, hMk12, hMk13, hMk14, hMk15, hMk16, hMT⟩ := hMc
  refine o_met (by decide +kernel) (Nat.le_of_ble_eq_true rfl) (fun p l ee s m args below meth c G b C hr hn => ?_)
  have C : oCx p s m args meth c G b RX9 cX9_lays 2 := C
  show oW p l ee ({ frames := 0, cells := 0, slots := 0, locals := 0 } : Room) s m args below meth c G b 2 0 0 (MQ below (o_Qc G b (oPv (fun σ2 => σ2 = o_up (o_up σ (mC + 16) (5 * kc + an) v) mC 24 ((an : Int) + 1)) T)) args s 0 0 (fun q => b ≤ q)) T σ 0 [some (og mC), some (oi v)] []
  refine r_al0 (q := 1) C dX9_lays_0 rfl ?_
  refine r_getR (q := 4) C f_X9_73 dX9_lays_1 rfl rfl (by assumption) (by assumption) (by omega) ?_
  refine r_iconst (q := 5) C dX9_lays_4 rfl ?_
  refine r_al0 (q := 6) C dX9_lays_5 rfl ?_
  refine r_getI (q := 9) C f_X9_82 dX9_lays_6 rfl rfl (by assumption) (by omega) ?_
  rw [hk]
  refine r_imul (q := 10) C dX9_lays_9 rfl ?_
  refine r_al0 (q := 11) C dX9_lays_10 rfl ?_
  refine r_getI (q := 14) C f_X9_85 dX9_lays_11 rfl rfl (by assumption) (by omega) ?_
  rw [ha]
  refine r_iadd (q := 15) C dX9_lays_14 rfl ?_
  refine r_il1 (q := 16) C dX9_lays_15 rfl ?_
  refine r_iast (q := 17) C (5 * kc + an) dX9_lays_16 rfl (by assumption) (by omega) (by omega) (by omega) (by decide) ?_
  refine r_al0 (q := 18) C dX9_lays_17 rfl ?_
  refine r_dup (q := 19) C dX9_lays_18 rfl ?_
  refine r_getI (q := 22) C f_X9_85 dX9_lays_19 rfl rfl (by assumption) (by omega) ?_
  rw [o_up_ne (by omega), ha]
  refine r_iconst (q := 23) C dX9_lays_22 rfl ?_
  refine r_iadd (q := 24) C dX9_lays_23 rfl ?_
  refine r_putI (q := 27) C fp_X9_85 dX9_lays_24 rfl rfl (by assumption) (by omega) ?_
  exact r_vret C hr dX9_lays_27 (by decide) (by decide) ⟨rfl, rfl, rfl⟩
theorem oMi_m {σ : oM} {mC nI px : Nat} {f : Nat → Int} {ok : Bool} (h : oMi σ mC nI f) : oMi (mSt σ mC px ok) mC nI f := ⟨by rw [mSt_k (by decide) (by decide)]; exact h.1, h.2.1, fun j hj => by rw [mSt_ne (by omega)]; exact h.2.2 j hj⟩
set_option maxRecDepth 20000 in
set_option maxHeartbeats 8000000 in
theorem c_X9_digits {T : oT} {σ : oM} {mC : Nat} (hM : oMm T mC) {nI px : Nat} {f : Nat → Int} {ok : Bool} (hi : oMi σ mC nI f) (hpl : σ mC 22 = (px : Int)) (hfl : σ mC 27 = flB ok) (hpx6 : px ≤ 60) {mx : Nat} (hmx : 1 ≤ mx ∧ mx ≤ 4) : MS yX9_digits cX9_digits 4 (some FieldType.int) 1 0 0 22 [og mC, oi ((mx : Nat) : Int)] T σ (oPs (fun zx σ2 => zx = (if ok = true ∧ isDg f nI px then (dgP f nI mx px 0).2 else 0) ∧ σ2 = mSt σ mC (dgT f nI mx (px, ok, [])).1 (dgT f nI mx (px, ok, [])).2.1) T) := by
  have hMc := hM
  obtain ⟨hM0, hMr0, hMr1, hMr2, hMr3, hMr8, hMr9, hMr10, hMr11, hMr13, hMr14, hMr15, hMr16, hMr17, hMr18, hMr19, hMr20, hMk1, hMk2, hMk3, hMk4, hMk5, hMk6, hMk7, hMk8, hMk9, hMk10, hMk11, hMk12, hMk13, hMk14, hMk15, hMk16, hMT⟩ := hMc
  have hflr := flB_r ok
  have hn60 := hi.2.1
  have hsr := sgF_r (px := px) (ok := ok) (fun j hj => (hi.2.2 j hj).2)
  refine o_met (by decide +kernel) (Nat.le_of_ble_eq_true rfl) (fun p l ee s m args below meth c G b C hr hn => ?_)
  have C : oCx p s m args meth c G b RX9 cX9_digits 4 := C
  show oW p l ee ({ frames := 1, cells := 0, slots := 0, locals := 22 } : Room) s m args below meth c G b 4 0 0 (MQ below (o_Qc G b (oPs (fun zx σ2 => zx = (if ok = true ∧ isDg f nI px then (dgP f nI mx px 0).2 else 0) ∧ σ2 = mSt σ mC (dgT f nI mx (px, ok, [])).1 (dgT f nI mx (px, ok, [])).2.1) T)) args s 0 0 (fun q => b ≤ q)) T σ 0 [some (og mC), some (oi ((mx : Nat) : Int)), none, none] []
  refine r_iconst (q := 1) C dX9_digits_0 rfl ?_
  refine r_is2 (q := 2) C dX9_digits_1 rfl (by decide) ?_
  refine r_al0 (q := 3) C dX9_digits_2 rfl ?_
  refine r_dup (q := 4) C dX9_digits_3 rfl ?_
  refine r_getI (q := 7) C f_X9_94 dX9_digits_4 rfl rfl (by assumption) (by omega) ?_
  rw [hfl]
  refine r_al0 (q := 8) C dX9_digits_7 rfl ?_
  refine r_callV1 (q := 11) C (c_X9_sign hM hi hpl hfl hpx6) m_X9_225 (by assumption) (by omega) dX9_digits_8 rfl rfl (by decide) (by decide) (Nat.le_of_ble_eq_true rfl) ?_
  refine r_bipush (q := 13) C dX9_digits_11 (by decide) rfl ?_
  refine r_bipush (q := 15) C dX9_digits_13 (by decide) rfl ?_
  refine r_callSb (q := 18) C (c_X9_in (lo := 48) (hi := 57) (z := (sgF f nI px ok)) (by omega) (by omega) (by omega)) m_X9_108 dX9_digits_15 rfl rfl (by decide) (by decide) (Nat.le_of_ble_eq_true rfl) (fun br15 => ?_) (fun br15 => ?_)
  · refine r_ifne_t (q := 25) C (by decide) (by omega) dX9_digits_18 (by decide) ?_
    refine r_iconst (q := 26) C dX9_digits_25 rfl ?_
    refine r_ior (q := 27) (z := (flB ok)) C (by rcases hflr with h | h <;> rw [h] <;> decide) dX9_digits_26 rfl ?_
    refine r_putZ (q := 30) C fp_X9_94 dX9_digits_27 rfl rfl hflr (by assumption) (by omega) ?_
    refine r_iconst (q := 31) C dX9_digits_30 rfl ?_
    refine r_is3 (q := 32) C dX9_digits_31 rfl (by decide) ?_
    have hok : ok = true := by
      cases ok
      · rw [sgF, if_neg (fun q => absurd q.1 (by decide))] at br15
        omega
      · rfl
    have hgo : ok = true ∧ isDg f nI px := by
      by_cases hc : px < nI
      · rw [sgF, if_pos ⟨hok, hc⟩] at br15
        exact ⟨hok, hc, br15.1, br15.2⟩
      · rw [sgF, if_neg (fun q => hc q.2)] at br15
        omega
    have lp : ∀ (n : Nat) (ix qx : Nat) (nv : Int), mx - ix < n → (ix ≤ mx) → (((ix = 0 ∧ nv = 0) ∨ (ix = 1 ∧ 0 ≤ nv ∧ nv ≤ 9) ∨ (ix = 2 ∧ 0 ≤ nv ∧ nv ≤ 99) ∨ (ix = 3 ∧ 0 ≤ nv ∧ nv ≤ 999) ∨ (ix = 4 ∧ 0 ≤ nv ∧ nv ≤ 9999))) → (dgP f nI mx px 0 = dgP f nI (mx - ix) qx nv) → (ix = 0 → qx = px) → (qx ≤ 60) → oW p l ee ({ frames := 1, cells := 0, slots := 0, locals := 22 } : Room) s m args below meth c G b 4 0 0 (MQ below (o_Qc G b (oPs (fun zx σ2 => zx = (if ok = true ∧ isDg f nI px then (dgP f nI mx px 0).2 else 0) ∧ σ2 = mSt σ mC (dgT f nI mx (px, ok, [])).1 (dgT f nI mx (px, ok, [])).2.1) T)) args s 0 0 (fun q => b ≤ q)) T (mSt σ mC qx true) 32 [some (og mC), some (oi ((mx : Nat) : Int)), some (oi nv), some (oi ((ix : Nat) : Int))] [] := by
      intro n
      induction n with
      | zero =>
        intro ix qx nv hms
        exact absurd hms (Nat.not_lt_zero _)
      | succ n ih =>
        intro ix qx nv hms h1 h3 h4 h6 h7
        refine r_il3 (q := 33) C dX9_digits_32 rfl ?_
        refine r_il1 (q := 34) C dX9_digits_33 rfl ?_
        refine r_icge (q := 85) (q2 := 37) C (by omega) (by omega) dX9_digits_34 (by decide) rfl (fun br34 => ?_) (fun br34 => ?_)
        · refine r_il2 (q := 86) C dX9_digits_85 rfl ?_
          have hfin : dgP f nI mx px 0 = (qx, nv) := by rw [h4, show mx - ix = 0 by omega]; rfl
          exact r_iret C hr dX9_digits_86 (by decide) (by decide) ⟨_, rfl, rfl, by rw [if_pos hgo, hfin], by rw [show (dgT f nI mx (px, ok, [])) = ((dgP f nI mx px 0).1, true, [] ++ [(dgP f nI mx px 0).2]) from if_pos hgo, hfin]⟩
        · refine r_al0 (q := 38) C dX9_digits_37 rfl ?_
          refine r_callV1 (q := 41) C (c_X9_sign (px := qx) (ok := true) hM (oMi_m (px := qx) (ok := true) hi) mSt_22 mSt_27 h7) m_X9_225 (by assumption) (by omega) dX9_digits_38 rfl rfl (by decide) (by decide) (Nat.le_of_ble_eq_true rfl) ?_
          have hsq := sgF_r (px := qx) (ok := true) (fun j hj => (hi.2.2 j hj).2)
          refine r_bipush (q := 43) C dX9_digits_41 (by decide) rfl ?_
          refine r_bipush (q := 45) C dX9_digits_43 (by decide) rfl ?_
          refine r_callSb (q := 48) C (c_X9_in (lo := 48) (hi := 57) (z := sgF f nI qx true) (by omega) (by omega) (by omega)) m_X9_108 dX9_digits_45 rfl rfl (by decide) (by decide) (Nat.le_of_ble_eq_true rfl) (fun br45 => ?_) (fun br45 => ?_)
          · refine r_ifeq_f (q := 85) (q2 := 51) C (by decide) (by omega) dX9_digits_48 (by decide) rfl ?_
            have hid : isDg f nI qx := by
              by_cases hc : qx < nI
              · rw [sgF, if_pos ⟨rfl, hc⟩] at br45
                exact ⟨hc, br45.1, br45.2⟩
              · rw [sgF, if_neg (fun q => hc q.2)] at br45
                omega
            have hij := hi.2.2 qx hid.1
            refine r_bipush (q := 53) C dX9_digits_51 (by decide) rfl ?_
            refine r_il2 (q := 54) C dX9_digits_53 rfl ?_
            refine r_imul (q := 55) C dX9_digits_54 rfl ?_
            refine r_al0 (q := 56) C dX9_digits_55 rfl ?_
            refine r_getR (q := 59) C f_X9_67 dX9_digits_56 rfl rfl (by assumption) (by assumption) (by omega) ?_
            refine r_al0 (q := 60) C dX9_digits_59 rfl ?_
            refine r_getI (q := 63) C f_X9_79 dX9_digits_60 rfl rfl (by assumption) (by omega) ?_
            rw [mSt_22]
            refine r_iald (q := 64) C (qx) dX9_digits_63 rfl (by assumption) (by omega) (by omega) (by omega) (by decide) ?_
            rw [mSt_ne (by omega), hij.1]
            refine r_iadd (q := 65) C dX9_digits_64 rfl ?_
            refine r_bipush (q := 67) C dX9_digits_65 (by decide) rfl ?_
            refine r_isub (q := 68) C dX9_digits_67 rfl ?_
            refine r_is2 (q := 69) C dX9_digits_68 rfl (by decide) ?_
            refine r_al0 (q := 70) C dX9_digits_69 rfl ?_
            refine r_dup (q := 71) C dX9_digits_70 rfl ?_
            refine r_getI (q := 74) C f_X9_79 dX9_digits_71 rfl rfl (by assumption) (by omega) ?_
            rw [mSt_22]
            refine r_iconst (q := 75) C dX9_digits_74 rfl ?_
            refine r_iadd (q := 76) C dX9_digits_75 rfl ?_
            refine r_putI (q := 79) C fp_X9_79 dX9_digits_76 rfl rfl (by assumption) (by omega) ?_
            rw [show o_up (mSt σ mC qx true) mC 22 (((qx : Nat) : Int) + 1) = mSt σ mC (qx + 1) true from o_up_up]
            refine r_iinc3 (q := 82) C dX9_digits_79 rfl (by decide) ?_
            refine r_goto (q := 32) C dX9_digits_82 (by decide) ?_
            exact ih (ix + 1) (qx + 1) (10 * nv + f qx - 48) (by omega) (by omega) (by omega) (by rw [h4, show mx - ix = (mx - (ix + 1)) + 1 by omega, dgP, if_pos hid]) (fun hc => absurd hc (by omega)) (by have := hid.1; omega)
          · refine r_ifeq_t (q := 85) C (by decide) (by omega) dX9_digits_48 (by decide) ?_
            refine r_il2 (q := 86) C dX9_digits_85 rfl ?_
            have hnd : ¬ isDg f nI qx := fun hc => br45 (by rw [sgF, if_pos ⟨rfl, hc.1⟩]; exact hc.2)
            have hfin : dgP f nI mx px 0 = (qx, nv) := by rw [h4, show mx - ix = (mx - ix - 1) + 1 by omega, dgP, if_neg hnd]
            exact r_iret C hr dX9_digits_86 (by decide) (by decide) ⟨_, rfl, rfl, by rw [if_pos hgo, hfin], by rw [show (dgT f nI mx (px, ok, [])) = ((dgP f nI mx px 0).1, true, [] ++ [(dgP f nI mx px 0).2]) from if_pos hgo, hfin]⟩
    have h0 := lp _ 0 px 0 (Nat.lt_succ_self _) (Nat.zero_le _) (Or.inl ⟨rfl, rfl⟩) rfl (fun _ => rfl) hpx6
    rw [show mSt σ mC px true = o_up σ mC 27 (flB ok) from (mSt_mk (by rw [o_up_nj (Or.inr (by decide))]; exact hpl) (by rw [o_up_at, hok]) (fun k k1x k2x => o_up_nj (Or.inr k2x)) (fun x hx => o_up_ne hx)).symm] at h0
    exact h0
  · refine r_ifne_f (q := 25) (q2 := 21) C (by decide) (by omega) dX9_digits_18 (by decide) rfl ?_
    refine r_iconst (q := 22) C dX9_digits_21 rfl ?_
    refine r_goto (q := 26) C dX9_digits_22 (by decide) ?_
    refine r_ior (q := 27) (z := 1) C (by rcases hflr with h | h <;> rw [h] <;> decide) dX9_digits_26 rfl ?_
    refine r_putZ (q := 30) C fp_X9_94 dX9_digits_27 rfl rfl (Or.inr rfl) (by assumption) (by omega) ?_
    refine r_iconst (q := 31) C dX9_digits_30 rfl ?_
    refine r_is3 (q := 32) C dX9_digits_31 rfl (by decide) ?_
    have hst : o_up σ mC 27 1 = mSt σ mC px false := mSt_mk (by rw [o_up_nj (Or.inr (by decide))]; exact hpl) o_up_at (fun k k1x k2x => o_up_nj (Or.inr k2x)) (fun x hx => o_up_ne hx)
    have hng : ¬ (ok = true ∧ isDg f nI px) := fun hc => br15 (by rw [sgF, if_pos ⟨hc.1, hc.2.1⟩]; exact hc.2.2)
    rw [hst]
    refine r_il3 (q := 33) C dX9_digits_32 rfl ?_
    refine r_il1 (q := 34) C dX9_digits_33 rfl ?_
    refine r_icge (q := 85) (q2 := 37) C (by omega) (by omega) dX9_digits_34 (by decide) rfl (fun br34 => ?_) (fun br34 => ?_)
    · refine r_il2 (q := 86) C dX9_digits_85 rfl ?_
      exact r_iret C hr dX9_digits_86 (by decide) (by decide) ⟨_, rfl, rfl, by rw [if_neg hng], by rw [show (dgT f nI mx (px, ok, [])) = (px, false, [] ++ [0]) from if_neg hng]⟩
    · refine r_al0 (q := 38) C dX9_digits_37 rfl ?_
      refine r_callV1 (q := 41) C (c_X9_sign (px := px) (ok := false) hM (oMi_m (px := px) (ok := false) hi) mSt_22 mSt_27 hpx6) m_X9_225 (by assumption) (by omega) dX9_digits_38 rfl rfl (by decide) (by decide) (Nat.le_of_ble_eq_true rfl) ?_
      rw [show sgF f nI px false = -1 from if_neg (fun q => absurd q.1 (by decide))]
      refine r_bipush (q := 43) C dX9_digits_41 (by decide) rfl ?_
      refine r_bipush (q := 45) C dX9_digits_43 (by decide) rfl ?_
      refine r_callSb (q := 48) C (c_X9_in (lo := 48) (hi := 57) (z := -1) (by omega) (by omega) (by omega)) m_X9_108 dX9_digits_45 rfl rfl (by decide) (by decide) (Nat.le_of_ble_eq_true rfl) (fun br45 => ?_) (fun br45 => ?_)
      · refine r_ifeq_f (q := 85) (q2 := 51) C (by decide) (by omega) dX9_digits_48 (by decide) rfl ?_
        exact absurd br45.1 (by decide)
      · refine r_ifeq_t (q := 85) C (by decide) (by omega) dX9_digits_48 (by decide) ?_
        refine r_il2 (q := 86) C dX9_digits_85 rfl ?_
        exact r_iret C hr dX9_digits_86 (by decide) (by decide) ⟨_, rfl, rfl, by rw [if_neg hng], by rw [show (dgT f nI mx (px, ok, [])) = (px, false, [] ++ [0]) from if_neg hng]⟩
