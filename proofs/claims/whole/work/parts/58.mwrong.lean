def oMcs (σ : oM) (mC : Nat) (acc : List oCmd) : Prop := σ mC 23 = (acc.length : Int) ∧ ∀ (kx : Nat) (c : oCmd), acc[kx]? = some c → σ (mC + 15) kx = c.1 ∧ ∀ (j : Nat) (v : Int), c.2[j]? = some v → σ (mC + 16) (5 * kx + j) = v
def oMv (σ σ2 : oM) (mC : Nat) : Prop := σ2 mC 21 = 0 ∧ (∀ x, x ≠ mC → x ≠ mC + 15 → x ≠ mC + 16 → σ2 x = σ x) ∧ ∀ k, k ≠ 21 → k ≠ 22 → k ≠ 23 → k ≠ 24 → k ≠ 25 → k ≠ 27 → σ2 mC k = σ mC k
theorem dct_5 : ∀ i, i < 8 → dctP (o_sch.getD i []) ≤ 5 := by decide +kernel
theorem okC_5 {c : oCmd} (h : okC c) : c.2.length ≤ 5 := by
  rw [h.2.1]
  exact dct_5 _ (formIx_8 _)
theorem oMi_w {σ σ2 : oM} {mC nI : Nat} {f : Nat → Int} (h : oMi σ mC nI f) (hw : oMw σ σ2 mC) : oMi σ2 mC nI f := ⟨by rw [hw.2 21 (by decide) (by decide) (by decide) (by decide)]; exact h.1, h.2.1, fun j hj => by rw [hw.1 (mC + 14) (by omega) (by omega) (by omega)]; exact h.2.2 j hj⟩
theorem oMcs_app {σ σ2 : oM} {mC nI px : Nat} {f : Nat → Int} {acc : List oCmd} {c : oCmd} (h : oMcs σ mC acc) (hok : ∀ d ∈ acc, okC d) (hd2 : oMd σ σ2 mC nI px acc.length f) (hc : (pcP f nI px).2 = some c) : oMcs σ2 mC (acc ++ [c]) := by
  obtain ⟨g1, g2, g3, g4, g5, g6⟩ := hd2.2.2.2 c hc
  refine ⟨by rw [g2, List.length_append]; rfl, fun kx d hx => ?_⟩
  by_cases hk : kx < acc.length
  · rw [List.getElem?_append_left hk] at hx
    obtain ⟨e1, e2⟩ := h.2 kx d hx
    have h5 := okC_5 (hok d (List.mem_of_getElem? hx))
    exact ⟨by rw [g5 kx hk]; exact e1, fun j v hv => by
      have hj := (List.getElem?_eq_some_iff.mp hv).1
      rw [g6 _ (by omega)]
      exact e2 j v hv⟩
  · rw [List.getElem?_append_right (by omega)] at hx
    have hj := (List.getElem?_eq_some_iff.mp hx).1
    rw [List.length_cons, List.length_nil] at hj
    have hj2 : kx = acc.length := by omega
    subst hj2
    rw [Nat.sub_self] at hx
    cases hx
    exact ⟨g3, g4⟩
theorem pcP_end {f : Nat → Int} {nI px : Nat} (h : nI ≤ px) : pcP f nI px = (px, none) := by
  rw [pcP, if_neg (fun q => by have := q.1; omega)]
theorem paP_any {f : Nat → Int} {nI px k : Nat} {acc : List oCmd} (hk : nI ≤ px + k) (h : (pcP f nI px).2 = none) : (paP f nI k px acc).1 = ((pcP f nI px).1 : Int) := by
  cases k with
  | zero =>
    rw [pcP_end (by omega)]
    rfl
  | succ k => rw [paP_bad h]
theorem paP_any2 {f : Nat → Int} {nI px k rx : Nat} {c : oCmd} (hk : nI ≤ px + k) (h : pcP f nI px = (rx, some c)) : ∃ k2, k = k2 + 1 := by
  cases k with
  | zero =>
    rw [pcP_end (by omega)] at h
    cases h
  | succ k => exact ⟨k, rfl⟩
set_option maxRecDepth 20000 in
set_option maxHeartbeats 8000000 in
theorem c_X9_isWrong {T : oT} {σ : oM} {mC : Nat} (hM : oMm T mC) {nI : Nat} {f : Nat → Int} (hi : oMi σ mC nI f) : MS yX9_isWrong cX9_isWrong 1 (some FieldType.boolean) 5 0 0 107 [og mC] T σ (oPB (fun σ2 => (paP f nI 60 0 []).1 ≠ -7 ∧ σ2 mC 25 = (paP f nI 60 0 []).1 ∧ oMv σ σ2 mC) (fun σ2 => (paP f nI 60 0 []).1 = -7 ∧ σ2 mC 25 = -7 ∧ oMcs σ2 mC (paP f nI 60 0 []).2 ∧ oMv σ σ2 mC) T) := by
  have hMc := hM
  obtain ⟨hM0, hMr0, hMr1, hMr2, hMr3, hMr8, hMr9, hMr10, hMr11, hMr13, hMr14, hMr15, hMr16, hMr17, hMr18, hMr19, hMr20, hMk1, hMk2, hMk3, hMk4, hMk5, hMk6, hMk7, hMk8, hMk9, hMk10, hMk11, hMk12, hMk13, hMk14, hMk15, hMk16, hMT⟩ := hMc
  have hn60 := hi.2.1
  refine o_met (by decide +kernel) (Nat.le_of_ble_eq_true rfl) (fun p l ee s m args below meth c G b C hr hn => ?_)
  have C : oCx p s m args meth c G b RX9 cX9_isWrong 1 := C
  show oW p l ee ({ frames := 5, cells := 0, slots := 0, locals := 107 } : Room) s m args below meth c G b 1 0 0 (MQ below (o_Qc G b (oPB (fun σ2 => (paP f nI 60 0 []).1 ≠ -7 ∧ σ2 mC 25 = (paP f nI 60 0 []).1 ∧ oMv σ σ2 mC) (fun σ2 => (paP f nI 60 0 []).1 = -7 ∧ σ2 mC 25 = -7 ∧ oMcs σ2 mC (paP f nI 60 0 []).2 ∧ oMv σ σ2 mC) T)) args s 0 0 (fun q => b ≤ q)) T σ 0 [some (og mC)] []
  have tf : ∀ (σ1 : oM) (qx : Nat), (oMw σ σ1 mC) → (oMi σ1 mC nI f) → (σ1 mC 22 = (qx : Int)) → (σ1 mC 27 = flB false) → ((paP f nI 60 0 []).1 = (qx : Int)) → (qx ≤ nI) → oW p l ee ({ frames := 5, cells := 0, slots := 0, locals := 107 } : Room) s m args below meth c G b 1 0 0 (MQ below (o_Qc G b (oPB (fun σ2 => (paP f nI 60 0 []).1 ≠ -7 ∧ σ2 mC 25 = (paP f nI 60 0 []).1 ∧ oMv σ σ2 mC) (fun σ2 => (paP f nI 60 0 []).1 = -7 ∧ σ2 mC 25 = -7 ∧ oMcs σ2 mC (paP f nI 60 0 []).2 ∧ oMv σ σ2 mC) T)) args s 0 0 (fun q => b ≤ q)) T σ1 19 [some (og mC)] [] := by
    intro σ1 qx h2 h3 h4 h5 h6 h7
    refine r_al0 (q := 20) C dX9_isWrong_19 rfl ?_
    refine r_callV1 (q := 23) C (c_X9_sign (px := qx) (ok := false) hM h3 h4 h5 (by omega)) m_X9_225 (by assumption) (by omega) dX9_isWrong_20 rfl rfl (by decide) (by decide) (Nat.le_of_ble_eq_true rfl) ?_
    rw [show sgF f nI qx false = -1 from if_neg (fun q => absurd q.1 (by decide))]
    refine r_bipush (q := 25) C dX9_isWrong_23 (by decide) rfl ?_
    refine r_icne_t (q := 45) C (by decide) (by omega) (by omega) dX9_isWrong_25 (by decide) ?_
    refine r_al0 (q := 46) C dX9_isWrong_45 rfl ?_
    refine r_dup (q := 47) C dX9_isWrong_46 rfl ?_
    refine r_getI (q := 50) C f_X9_94 dX9_isWrong_47 rfl rfl (by assumption) (by omega) ?_
    rw [h5, flB_f]
    refine r_al0 (q := 51) C dX9_isWrong_50 rfl ?_
    refine r_getI (q := 54) C f_X9_79 dX9_isWrong_51 rfl rfl (by assumption) (by omega) ?_
    rw [h4]
    refine r_al0 (q := 55) C dX9_isWrong_54 rfl ?_
    refine r_getI (q := 58) C f_X9_76 dX9_isWrong_55 rfl rfl (by assumption) (by omega) ?_
    rw [h3.1]
    refine r_icge (q := 65) (q2 := 61) C (by omega) (by omega) dX9_isWrong_58 (by decide) rfl (fun br58 => ?_) (fun br58 => ?_)
    · refine r_iconst (q := 66) C dX9_isWrong_65 rfl ?_
      refine r_ior (q := 67) (z := 1) C (by decide) dX9_isWrong_66 rfl ?_
      refine r_putZ (q := 70) C fp_X9_94 dX9_isWrong_67 rfl rfl (Or.inr rfl) (by assumption) (by omega) ?_
      refine r_al0 (q := 71) C dX9_isWrong_70 rfl ?_
      refine r_iconst (q := 72) C dX9_isWrong_71 rfl ?_
      refine r_putI (q := 75) C fp_X9_76 dX9_isWrong_72 rfl rfl (by assumption) (by omega) ?_
      refine r_al0 (q := 76) C dX9_isWrong_75 rfl ?_
      refine r_al0 (q := 77) C dX9_isWrong_76 rfl ?_
      refine r_getI (q := 80) C f_X9_94 dX9_isWrong_77 rfl rfl (by assumption) (by omega) ?_
      rw [o_up_nj (Or.inr (by decide)), o_up_at]
      refine r_ifeq_f (q := 90) (q2 := 83) C (by decide) (by omega) dX9_isWrong_80 (by decide) rfl ?_
      refine r_al0 (q := 84) C dX9_isWrong_83 rfl ?_
      refine r_getI (q := 87) C f_X9_79 dX9_isWrong_84 rfl rfl (by assumption) (by omega) ?_
      rw [o_up_nj (Or.inr (by decide)), o_up_nj (Or.inr (by decide)), h4]
      refine r_goto (q := 92) C dX9_isWrong_87 (by decide) ?_
      refine r_putI (q := 95) C fp_X9_88 dX9_isWrong_92 rfl rfl (by assumption) (by omega) ?_
      refine r_al0 (q := 96) C dX9_isWrong_95 rfl ?_
      refine r_getI (q := 99) C f_X9_94 dX9_isWrong_96 rfl rfl (by assumption) (by omega) ?_
      rw [o_up_nj (Or.inr (by decide)), o_up_nj (Or.inr (by decide)), o_up_at]
      refine r_zret C hr dX9_isWrong_99 (by decide) (by decide) (Or.inr rfl) ?_
      exact ⟨rfl, Or.inl ⟨rfl, by rw [h6]; omega, by rw [o_up_at, h6], ⟨by rw [o_up_nj (Or.inr (by decide)), o_up_at], fun x a1x a2x a3x => by rw [o_up_ne a1x, o_up_ne a1x, o_up_ne a1x]; exact h2.1 x a1x a2x a3x, fun k k1x k2x k3x k4x k5x k6x => by rw [o_up_nj (Or.inr k5x), o_up_nj (Or.inr k1x), o_up_nj (Or.inr k6x)]; exact h2.2 k k2x k3x k4x k6x⟩⟩⟩
    · refine r_iconst (q := 62) C dX9_isWrong_61 rfl ?_
      refine r_goto (q := 66) C dX9_isWrong_62 (by decide) ?_
      refine r_ior (q := 67) (z := 1) C (by decide) dX9_isWrong_66 rfl ?_
      refine r_putZ (q := 70) C fp_X9_94 dX9_isWrong_67 rfl rfl (Or.inr rfl) (by assumption) (by omega) ?_
      refine r_al0 (q := 71) C dX9_isWrong_70 rfl ?_
      refine r_iconst (q := 72) C dX9_isWrong_71 rfl ?_
      refine r_putI (q := 75) C fp_X9_76 dX9_isWrong_72 rfl rfl (by assumption) (by omega) ?_
      refine r_al0 (q := 76) C dX9_isWrong_75 rfl ?_
      refine r_al0 (q := 77) C dX9_isWrong_76 rfl ?_
      refine r_getI (q := 80) C f_X9_94 dX9_isWrong_77 rfl rfl (by assumption) (by omega) ?_
      rw [o_up_nj (Or.inr (by decide)), o_up_at]
      refine r_ifeq_f (q := 90) (q2 := 83) C (by decide) (by omega) dX9_isWrong_80 (by decide) rfl ?_
      refine r_al0 (q := 84) C dX9_isWrong_83 rfl ?_
      refine r_getI (q := 87) C f_X9_79 dX9_isWrong_84 rfl rfl (by assumption) (by omega) ?_
      rw [o_up_nj (Or.inr (by decide)), o_up_nj (Or.inr (by decide)), h4]
      refine r_goto (q := 92) C dX9_isWrong_87 (by decide) ?_
      refine r_putI (q := 95) C fp_X9_88 dX9_isWrong_92 rfl rfl (by assumption) (by omega) ?_
      refine r_al0 (q := 96) C dX9_isWrong_95 rfl ?_
      refine r_getI (q := 99) C f_X9_94 dX9_isWrong_96 rfl rfl (by assumption) (by omega) ?_
      rw [o_up_nj (Or.inr (by decide)), o_up_nj (Or.inr (by decide)), o_up_at]
      refine r_zret C hr dX9_isWrong_99 (by decide) (by decide) (Or.inr rfl) ?_
      exact ⟨rfl, Or.inl ⟨rfl, by rw [h6]; omega, by rw [o_up_at, h6], ⟨by rw [o_up_nj (Or.inr (by decide)), o_up_at], fun x a1x a2x a3x => by rw [o_up_ne a1x, o_up_ne a1x, o_up_ne a1x]; exact h2.1 x a1x a2x a3x, fun k k1x k2x k3x k4x k5x k6x => by rw [o_up_nj (Or.inr k5x), o_up_nj (Or.inr k1x), o_up_nj (Or.inr k6x)]; exact h2.2 k k2x k3x k4x k6x⟩⟩⟩
  have lp : ∀ (n : Nat) (σ1 : oM) (qx : Nat) (acc : List oCmd) (kf : Nat), kf < n → (oMw σ σ1 mC) → (oMi σ1 mC nI f) → (σ1 mC 22 = (qx : Int)) → (σ1 mC 27 = flB true) → ((paP f nI 60 0 []) = if nI ≤ qx then (-7, acc) else if f qx = 59 then paP f nI kf (qx + 1) acc else ((qx : Int), acc)) → (acc.length ≤ qx ∧ qx ≤ nI) → (oMcs σ1 mC acc) → (∀ d ∈ acc, okC d) → (nI ≤ qx + 1 + kf) → oW p l ee ({ frames := 5, cells := 0, slots := 0, locals := 107 } : Room) s m args below meth c G b 1 0 0 (MQ below (o_Qc G b (oPB (fun σ2 => (paP f nI 60 0 []).1 ≠ -7 ∧ σ2 mC 25 = (paP f nI 60 0 []).1 ∧ oMv σ σ2 mC) (fun σ2 => (paP f nI 60 0 []).1 = -7 ∧ σ2 mC 25 = -7 ∧ oMcs σ2 mC (paP f nI 60 0 []).2 ∧ oMv σ σ2 mC) T)) args s 0 0 (fun q => b ≤ q)) T σ1 19 [some (og mC)] [] := by
    intro n
    induction n with
    | zero =>
      intro σ1 qx acc kf hms
      exact absurd hms (Nat.not_lt_zero _)
    | succ n ih =>
      intro σ1 qx acc kf hms h2 h3 h4 h5 h6 h7 h8 h9 h10
      refine r_al0 (q := 20) C dX9_isWrong_19 rfl ?_
      refine r_callV1 (q := 23) C (c_X9_sign (px := qx) (ok := true) hM h3 h4 h5 (by omega)) m_X9_225 (by assumption) (by omega) dX9_isWrong_20 rfl rfl (by decide) (by decide) (Nat.le_of_ble_eq_true rfl) ?_
      have hsr := sgF_r (px := qx) (ok := true) (fun j hj => (h3.2.2 j hj).2)
      refine r_bipush (q := 25) C dX9_isWrong_23 (by decide) rfl ?_
      refine r_icne (q := 45) (q2 := 28) C (by omega) (by omega) dX9_isWrong_25 (by decide) rfl (fun br25 => ?_) (fun br25 => ?_)
      · have hno : ¬ (qx < nI ∧ f qx = 59) := fun hc => br25 (by rw [sgF, if_pos ⟨rfl, hc.1⟩]; exact hc.2)
        refine r_al0 (q := 46) C dX9_isWrong_45 rfl ?_
        refine r_dup (q := 47) C dX9_isWrong_46 rfl ?_
        refine r_getI (q := 50) C f_X9_94 dX9_isWrong_47 rfl rfl (by assumption) (by omega) ?_
        rw [h5, flB_t]
        refine r_al0 (q := 51) C dX9_isWrong_50 rfl ?_
        refine r_getI (q := 54) C f_X9_79 dX9_isWrong_51 rfl rfl (by assumption) (by omega) ?_
        rw [h4]
        refine r_al0 (q := 55) C dX9_isWrong_54 rfl ?_
        refine r_getI (q := 58) C f_X9_76 dX9_isWrong_55 rfl rfl (by assumption) (by omega) ?_
        rw [h3.1]
        refine r_icge (q := 65) (q2 := 61) C (by omega) (by omega) dX9_isWrong_58 (by decide) rfl (fun br58 => ?_) (fun br58 => ?_)
        · refine r_iconst (q := 66) C dX9_isWrong_65 rfl ?_
          refine r_ior (q := 67) (z := 0) C (by decide) dX9_isWrong_66 rfl ?_
          refine r_putZ (q := 70) C fp_X9_94 dX9_isWrong_67 rfl rfl (Or.inl rfl) (by assumption) (by omega) ?_
          refine r_al0 (q := 71) C dX9_isWrong_70 rfl ?_
          refine r_iconst (q := 72) C dX9_isWrong_71 rfl ?_
          refine r_putI (q := 75) C fp_X9_76 dX9_isWrong_72 rfl rfl (by assumption) (by omega) ?_
          refine r_al0 (q := 76) C dX9_isWrong_75 rfl ?_
          refine r_al0 (q := 77) C dX9_isWrong_76 rfl ?_
          refine r_getI (q := 80) C f_X9_94 dX9_isWrong_77 rfl rfl (by assumption) (by omega) ?_
          rw [o_up_nj (Or.inr (by decide)), o_up_at]
          refine r_ifeq_t (q := 90) C rfl (by omega) dX9_isWrong_80 (by decide) ?_
          refine r_bipush (q := 92) C dX9_isWrong_90 (by decide) rfl ?_
          refine r_putI (q := 95) C fp_X9_88 dX9_isWrong_92 rfl rfl (by assumption) (by omega) ?_
          refine r_al0 (q := 96) C dX9_isWrong_95 rfl ?_
          refine r_getI (q := 99) C f_X9_94 dX9_isWrong_96 rfl rfl (by assumption) (by omega) ?_
          rw [if_pos (by omega)] at h6
          rw [o_up_nj (Or.inr (by decide)), o_up_nj (Or.inr (by decide)), o_up_at]
          refine r_zret C hr dX9_isWrong_99 (by decide) (by decide) (Or.inl rfl) ?_
          exact ⟨rfl, Or.inr ⟨rfl, by rw [h6], by rw [o_up_at], by rw [h6]; exact ⟨by rw [o_up_nj (Or.inr (by decide)), o_up_nj (Or.inr (by decide)), o_up_nj (Or.inr (by decide))]; exact h8.1, fun kx c hc => by rw [o_up_ne (by omega), o_up_ne (by omega), o_up_ne (by omega), o_up_ne (by omega), o_up_ne (by omega), o_up_ne (by omega)]; exact h8.2 kx c hc⟩, ⟨by rw [o_up_nj (Or.inr (by decide)), o_up_at], fun x a1x a2x a3x => by rw [o_up_ne a1x, o_up_ne a1x, o_up_ne a1x]; exact h2.1 x a1x a2x a3x, fun k k1x k2x k3x k4x k5x k6x => by rw [o_up_nj (Or.inr k5x), o_up_nj (Or.inr k1x), o_up_nj (Or.inr k6x)]; exact h2.2 k k2x k3x k4x k6x⟩⟩⟩
        · refine r_iconst (q := 62) C dX9_isWrong_61 rfl ?_
          refine r_goto (q := 66) C dX9_isWrong_62 (by decide) ?_
          refine r_ior (q := 67) (z := 1) C (by decide) dX9_isWrong_66 rfl ?_
          refine r_putZ (q := 70) C fp_X9_94 dX9_isWrong_67 rfl rfl (Or.inr rfl) (by assumption) (by omega) ?_
          refine r_al0 (q := 71) C dX9_isWrong_70 rfl ?_
          refine r_iconst (q := 72) C dX9_isWrong_71 rfl ?_
          refine r_putI (q := 75) C fp_X9_76 dX9_isWrong_72 rfl rfl (by assumption) (by omega) ?_
          refine r_al0 (q := 76) C dX9_isWrong_75 rfl ?_
          refine r_al0 (q := 77) C dX9_isWrong_76 rfl ?_
          refine r_getI (q := 80) C f_X9_94 dX9_isWrong_77 rfl rfl (by assumption) (by omega) ?_
          rw [o_up_nj (Or.inr (by decide)), o_up_at]
          refine r_ifeq_f (q := 90) (q2 := 83) C (by decide) (by omega) dX9_isWrong_80 (by decide) rfl ?_
          refine r_al0 (q := 84) C dX9_isWrong_83 rfl ?_
          refine r_getI (q := 87) C f_X9_79 dX9_isWrong_84 rfl rfl (by assumption) (by omega) ?_
          rw [o_up_nj (Or.inr (by decide)), o_up_nj (Or.inr (by decide)), h4]
          refine r_goto (q := 92) C dX9_isWrong_87 (by decide) ?_
          refine r_putI (q := 95) C fp_X9_88 dX9_isWrong_92 rfl rfl (by assumption) (by omega) ?_
          refine r_al0 (q := 96) C dX9_isWrong_95 rfl ?_
          refine r_getI (q := 99) C f_X9_94 dX9_isWrong_96 rfl rfl (by assumption) (by omega) ?_
          rw [if_neg (by omega), if_neg (fun hc => hno ⟨by omega, hc⟩)] at h6
          rw [o_up_nj (Or.inr (by decide)), o_up_nj (Or.inr (by decide)), o_up_at]
          refine r_zret C hr dX9_isWrong_99 (by decide) (by decide) (Or.inr rfl) ?_
          exact ⟨rfl, Or.inl ⟨rfl, by rw [h6]; show ((qx : Nat) : Int) ≠ -7; omega, by rw [o_up_at, h6], ⟨by rw [o_up_nj (Or.inr (by decide)), o_up_at], fun x a1x a2x a3x => by rw [o_up_ne a1x, o_up_ne a1x, o_up_ne a1x]; exact h2.1 x a1x a2x a3x, fun k k1x k2x k3x k4x k5x k6x => by rw [o_up_nj (Or.inr k5x), o_up_nj (Or.inr k1x), o_up_nj (Or.inr k6x)]; exact h2.2 k k2x k3x k4x k6x⟩⟩⟩
      · have hgo : qx < nI ∧ f qx = 59 := by
          by_cases hc : qx < nI
          · rw [sgF, if_pos ⟨rfl, hc⟩] at br25
            exact ⟨hc, br25⟩
          · rw [sgF, if_neg (fun q => hc q.2)] at br25
            omega
        rw [if_neg (by omega), if_pos hgo.2] at h6
        refine r_al0 (q := 29) C dX9_isWrong_28 rfl ?_
        refine r_dup (q := 30) C dX9_isWrong_29 rfl ?_
        refine r_getI (q := 33) C f_X9_79 dX9_isWrong_30 rfl rfl (by assumption) (by omega) ?_
        rw [h4]
        refine r_iconst (q := 34) C dX9_isWrong_33 rfl ?_
        refine r_iadd (q := 35) C dX9_isWrong_34 rfl ?_
        refine r_putI (q := 38) C fp_X9_79 dX9_isWrong_35 rfl rfl (by assumption) (by omega) ?_
        have h4s : o_up σ1 mC 22 ((qx : Int) + 1) mC 22 = ((qx + 1 : Nat) : Int) := o_up_at
        have hws : oMw σ1 (o_up σ1 mC 22 ((qx : Int) + 1)) mC := ⟨fun x a1x _ _ => o_up_ne a1x, fun k k1x _ _ _ => o_up_nj (Or.inr k1x)⟩
        refine r_al0 (q := 39) C dX9_isWrong_38 rfl ?_
        refine r_callVv (q := 42) C (c_X9_command (px := qx + 1) (kc := acc.length) hM (oMi_w h3 hws) h4s (by rw [o_up_nj (Or.inr (by decide))]; exact h5) (by rw [o_up_nj (Or.inr (by decide))]; exact h8.1) (by omega) (by omega)) m_X9_250 (by assumption) (by omega) dX9_isWrong_39 rfl rfl (by decide) (by decide) (Nat.le_of_ble_eq_true rfl) (fun σ3 hσ3 => ?_)
        refine r_goto (q := 19) C dX9_isWrong_42 (by decide) ?_
        have hple := pcP_le (f := f) (nI := nI) (px := qx + 1)
        have hw3 := oMw_tr (oMw_tr h2 hws) hσ3.1
        have h8s : oMcs (o_up σ1 mC 22 ((qx : Int) + 1)) mC acc := ⟨by rw [o_up_nj (Or.inr (by decide))]; exact h8.1, fun kx c hc => by rw [o_up_ne (by omega), o_up_ne (by omega)]; exact h8.2 kx c hc⟩
        cases hpk : (pcP f nI (qx + 1)).2 with
        | none =>
          exact tf σ3 (pcP f nI (qx + 1)).1 hw3 (oMi_w (oMi_w h3 hws) hσ3.1) hσ3.2.1 (hσ3.2.2.1 hpk) (by rw [h6]; exact paP_any (by omega) hpk) (hple.2.1 (by omega))
        | some c =>
          have hpe : pcP f nI (qx + 1) = ((pcP f nI (qx + 1)).1, some c) := by rw [← hpk]
          obtain ⟨k2q, hk2⟩ := paP_any2 (k := kf) (by omega) hpe
          have hlt := hple.2.2 (by rw [hpk]; exact fun q => by cases q)
          have hle := hple.2.1 (by omega)
          exact ih σ3 (pcP f nI (qx + 1)).1 (acc ++ [c]) k2q (by omega) hw3 (oMi_w (oMi_w h3 hws) hσ3.1) hσ3.2.1 (hσ3.2.2.2 c hpk).1 (by rw [h6, hk2]; exact paP_ok hpe) ⟨by rw [List.length_append, List.length_cons, List.length_nil]; omega, hle⟩ (oMcs_app h8s h9 hσ3 hpk) (fun d hd2 => (List.mem_append.mp hd2).elim (fun q => h9 d q) (fun q => by rw [List.mem_singleton.mp q]; exact pcP_ok hpe)) (by omega)
  refine r_al0 (q := 1) C dX9_isWrong_0 rfl ?_
  refine r_iconst (q := 2) C dX9_isWrong_1 rfl ?_
  refine r_putI (q := 5) C fp_X9_79 dX9_isWrong_2 rfl rfl (by assumption) (by omega) ?_
  refine r_al0 (q := 6) C dX9_isWrong_5 rfl ?_
  refine r_iconst (q := 7) C dX9_isWrong_6 rfl ?_
  refine r_putI (q := 10) C fp_X9_82 dX9_isWrong_7 rfl rfl (by assumption) (by omega) ?_
  refine r_al0 (q := 11) C dX9_isWrong_10 rfl ?_
  refine r_iconst (q := 12) C dX9_isWrong_11 rfl ?_
  refine r_putZ (q := 15) C fp_X9_94 dX9_isWrong_12 rfl rfl (by decide) (by assumption) (by omega) ?_
  have hws : oMw σ (o_up (o_up (o_up σ mC 22 0) mC 23 0) mC 27 0) mC := ⟨fun x a1x _ _ => by rw [o_up_ne a1x, o_up_ne a1x, o_up_ne a1x], fun k k1x k2x _ k4x => by rw [o_up_nj (Or.inr k4x), o_up_nj (Or.inr k2x), o_up_nj (Or.inr k1x)]⟩
  refine r_al0 (q := 16) C dX9_isWrong_15 rfl ?_
  refine r_callVv (q := 19) C (c_X9_command (px := 0) (kc := 0) hM (oMi_w hi hws) (by rw [o_up_nj (Or.inr (by decide)), o_up_nj (Or.inr (by decide)), o_up_at]; rfl) o_up_at (by rw [o_up_nj (Or.inr (by decide)), o_up_at]; rfl) (by omega) (Nat.zero_le _)) m_X9_250 (by assumption) (by omega) dX9_isWrong_16 rfl rfl (by decide) (by decide) (Nat.le_of_ble_eq_true rfl) (fun σ3 hσ3 => ?_)
  have hple := pcP_le (f := f) (nI := nI) (px := 0)
  have hw3 := oMw_tr hws hσ3.1
  have h8s : oMcs (o_up (o_up (o_up σ mC 22 0) mC 23 0) mC 27 0) mC [] := ⟨by rw [o_up_nj (Or.inr (by decide)), o_up_at]; rfl, fun kx c hc => by simp at hc⟩
  cases hpk : (pcP f nI 0).2 with
  | none =>
    exact tf σ3 (pcP f nI 0).1 hw3 (oMi_w (oMi_w hi hws) hσ3.1) hσ3.2.1 (hσ3.2.2.1 hpk) (paP_any (by omega) hpk) (hple.2.1 (Nat.zero_le _))
  | some c =>
    have hpe : pcP f nI 0 = ((pcP f nI 0).1, some c) := by rw [← hpk]
    have hlt := hple.2.2 (by rw [hpk]; exact fun q => by cases q)
    have hle := hple.2.1 (Nat.zero_le _)
    exact lp _ σ3 (pcP f nI 0).1 ([] ++ [c]) 59 (Nat.lt_succ_self _) hw3 (oMi_w (oMi_w hi hws) hσ3.1) hσ3.2.1 (hσ3.2.2.2 c hpk).1 (paP_ok hpe) ⟨by show 1 ≤ _; omega, hle⟩ (oMcs_app h8s (fun d hd2 => by cases hd2) hσ3 hpk) (fun d hd2 => by rw [List.mem_singleton.mp hd2]; exact pcP_ok hpe) (by omega)
