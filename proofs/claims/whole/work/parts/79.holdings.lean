theorem oNx_1 {T : oT} {σ : oM} {kd : Nat × Nat} : oNx T (o_new T kd) σ (o_new0 σ T.1) T.1 1 := oNx_new ⟨rfl, fun _ _ => ⟨rfl, rfl⟩, fun _ _ => rfl⟩
abbrev P_Ed : oT → oM → Nat → Prop := fun T _ e => oEd T e
abbrev P_Ln : oT → oM → Nat → Prop := fun T _ e => T.2.1 e = (7, 0) ∧ e + 1 ≤ T.1
abbrev P_Hd : oT → oM → Nat → Prop := fun T _ e => oHd T e
abbrev P_Bx : oT → oM → Nat → Prop := fun T σ e => oBx T e ∧ ∀ x, e ≤ x → x < e + 3 → ∀ i, σ x i = 0
theorem P_Ed_st {fr : Nat} (T T2 : oT) (σ σ2 : oM) (e : Nat) (h : P_Ed T σ e) (h1 : fr ≤ e) (h2 : oFrm fr T T2) (_ : ∀ x, fr ≤ x → x < T.1 → σ2 x = σ x) : P_Ed T2 σ2 e := oEd_at h h2 h1
theorem P_Hd_st {fr : Nat} (T T2 : oT) (σ σ2 : oM) (e : Nat) (h : P_Hd T σ e) (h1 : fr ≤ e) (h2 : oFrm fr T T2) (_ : ∀ x, fr ≤ x → x < T.1 → σ2 x = σ x) : P_Hd T2 σ2 e := oHd_at h h2 h1
theorem P_Ln_st {fr : Nat} (T T2 : oT) (σ σ2 : oM) (e : Nat) (h : P_Ln T σ e) (h1 : fr ≤ e) (h2 : oFrm fr T T2) (_ : ∀ x, fr ≤ x → x < T.1 → σ2 x = σ x) : P_Ln T2 σ2 e := ⟨(h2.2 e h1 (by have := h.2; omega)).1.trans h.1, Nat.le_trans h.2 h2.1⟩
theorem P_Bx_st {fr : Nat} (T T2 : oT) (σ σ2 : oM) (e : Nat) (h : P_Bx T σ e) (h1 : fr ≤ e) (h2 : oFrm fr T T2) (h3 : ∀ x, fr ≤ x → x < T.1 → σ2 x = σ x) : P_Bx T2 σ2 e := ⟨oBx_at h.1 h2 h1, fun x x1 x2 i => by
  have hb := h.1.2.2.2.2.2
  rw [h3 x (by omega) (by omega)]
  exact h.2 x x1 x2 i⟩
set_option maxRecDepth 20000 in
set_option maxHeartbeats 8000000 in
theorem c_X6_init {T : oT} {σ : oM} {aC : Nat} (hs : T.2.1 aC = (6, 0)) (hT1 : T.1 = aC + 1) : MS yX6_init cX6_init 2 none 2 103 5198 41 [og aC] T σ (oPc (fun T2 σ2 => oHd T2 aC ∧ oNx T T2 σ σ2 aC 103 ∧ (∀ i, σ2 aC i = σ aC i) ∧ ∀ i, σ2 (aC + 80) i = 0 ∧ σ2 (aC + 81) i = 0 ∧ σ2 (aC + 82) i = 0)) := by
  have ha : aC < T.1 := by omega
  refine o_met (by decide +kernel) (Nat.le_of_ble_eq_true rfl) (fun p l ee s m args below meth c G b C hr hn => ?_)
  have C : oCx p s m args meth c G b RX6 cX6_init 2 := C
  show oW p l ee ({ frames := 2, cells := 103, slots := 5198, locals := 41 } : Room) s m args below meth c G b 2 0 0 (MQ below (o_Qc G b (oPc (fun T2 σ2 => oHd T2 aC ∧ oNx T T2 σ σ2 aC 103 ∧ (∀ i, σ2 aC i = σ aC i) ∧ ∀ i, σ2 (aC + 80) i = 0 ∧ σ2 (aC + 81) i = 0 ∧ σ2 (aC + 82) i = 0))) args s 103 5198 (fun q => b ≤ q)) T σ 0 [some (og aC), none] []
  refine r_al0 (q := 1) C dX6_init_0 rfl ?_
  refine r_obj (q := 4) C (o_t1 31 rfl rfl) dX6_init_1 rfl (by decide) (Nat.le_of_ble_eq_true rfl) ?_
  have hB0 := oBm_0 (T := T) (σ := σ) (a := aC)
  refine r_al0 (q := 5) C dX6_init_4 rfl ?_
  refine r_bipush (q := 7) C dX6_init_5 (by decide) rfl ?_
  refine r_anM (q := 13) (N := 6) (kd := 13) C (by decide) rfl (o_t1 32 rfl rfl) C.2.2.2.2.2.1.2.2.1.2.1 dX6_init_7 rfl (by decide) rfl ⟨by decide, by decide⟩ fp_X6_11 dX6_init_10 rfl rfl hn (fun _ => rfl) (fun _ => rfl) hB0 hs ha (by decide) (fun T1 σ1 hB1 => ?_)
  refine r_iconst (q := 14) C dX6_init_13 rfl ?_
  refine r_is1 (q := 15) C dX6_init_14 rfl (by decide) ?_
  have t1 : T1.1 = T.1 + 1 := hB1.1.1
  have hs1 : T1.2.1 aC = (6, 0) := (hB1.1.2.1 aC ha).1.trans hs
  have hr1 : T1.2.2 aC 1 = some (aC + 1) := by
    rw [(hB1.1.2.2.1 0 _ rfl).2.1]
    congr 1
  have hse : T1.2.1 (aC + 1) = (13, 6) := by
    rw [show aC + 1 = T.1 + 0 by omega]
    exact (hB1.1.2.2.1 0 _ rfl).1
  have key2 : ∀ (Tk : oT) (σk : oM), (oQ P_Ed T1 σ1 Tk σk (aC + 1) 6 13 13 6) → oW p l ee ({ frames := 2, cells := 103, slots := 5198, locals := 41 } : Room) s m args below meth c G b 2 (1 + 13 * 6) (6 + 833 * 6) (MQ below (o_Qc G b (oPc (fun T2 σ2 => oHd T2 aC ∧ oNx T T2 σ σ2 aC 103 ∧ (∀ i, σ2 aC i = σ aC i) ∧ ∀ i, σ2 (aC + 80) i = 0 ∧ σ2 (aC + 81) i = 0 ∧ σ2 (aC + 82) i = 0))) args s 103 5198 (fun q => b ≤ q)) Tk σk 40 [some (og aC), some (oi ((6 : Nat) : Int))] [] := by
    intro Tk σk hQk
    have tK := hQk.1
    have hsB : Tk.2.1 aC = (6, 0) := (hQk.2.2.2.1 aC (by omega)).1.trans hs1
    have hrB : Tk.2.2 aC 1 = some (aC + 1) := (congrFun (hQk.2.2.2.1 aC (by omega)).2 1).trans hr1
    have haB : aC < Tk.1 := by omega
    have hB20 := oBm_0 (T := Tk) (σ := σk) (a := aC)
    refine r_al0 (q := 41) C dX6_init_40 rfl ?_
    refine r_iconst (q := 42) C dX6_init_41 rfl ?_
    refine r_naM (q := 47) (N := 4) C dX6_init_42 rfl (by decide) rfl ⟨by decide, by decide⟩ fp_X6_18 dX6_init_44 rfl rfl hn (fun _ => rfl) (fun _ => rfl) hB20 hsB haB (by decide) (fun T2 σ2 hB21 => ?_)
    refine r_al0 (q := 48) C dX6_init_47 rfl ?_
    refine r_iconst (q := 49) C dX6_init_48 rfl ?_
    refine r_naM (q := 54) (N := 4) C dX6_init_49 rfl (by decide) rfl ⟨by decide, by decide⟩ fp_X6_22 dX6_init_51 rfl rfl hn (fun _ => rfl) (fun _ => rfl) hB21 hsB haB (by decide) (fun T3 σ3 hB22 => ?_)
    refine r_al0 (q := 55) C dX6_init_54 rfl ?_
    refine r_bipush (q := 57) C dX6_init_55 (by decide) rfl ?_
    refine r_naM (q := 62) (N := 6) C dX6_init_57 rfl (by decide) rfl ⟨by decide, by decide⟩ fp_X6_25 dX6_init_59 rfl rfl hn (fun _ => rfl) (fun _ => rfl) hB22 hsB haB (by decide) (fun T4 σ4 hB23 => ?_)
    refine r_al0 (q := 63) C dX6_init_62 rfl ?_
    refine r_bipush (q := 65) C dX6_init_63 (by decide) rfl ?_
    refine r_anM (q := 71) (N := 20) (kd := 15) C (by decide) rfl (o_t1 97 rfl rfl) C.2.2.2.2.2.1.2.2.1.2.2.2 dX6_init_65 rfl (by decide) rfl ⟨by decide, by decide⟩ fp_X6_30 dX6_init_68 rfl rfl hn (fun _ => rfl) (fun _ => rfl) hB23 hsB haB (by decide) (fun T5 σ5 hB24 => ?_)
    refine r_iconst (q := 72) C dX6_init_71 rfl ?_
    refine r_is1 (q := 73) C dX6_init_72 rfl (by decide) ?_
    have hs25 : T5.2.1 aC = (6, 0) := (hB24.1.2.1 aC haB).1.trans hsB
    have t5 : T5.1 = Tk.1 + 4 := hB24.1.1
    have hr25 : T5.2.2 aC 6 = some (aC + 83) := by
      rw [(hB24.1.2.2.1 3 _ rfl).2.1]
      congr 1
      omega
    have hsl : T5.2.1 (aC + 83) = (15, 20) := by
      rw [show aC + 83 = Tk.1 + 3 by omega]
      exact (hB24.1.2.2.1 3 _ rfl).1
    have lp2 : ∀ (n : Nat) (jx : Nat) (Tj : oT) (σj : oM), 20 - jx < n → (jx ≤ 20) → (oQ P_Ln T5 σ5 Tj σj (aC + 83) 20 15 1 jx) → oW p l ee ({ frames := 2, cells := 103, slots := 5198, locals := 41 } : Room) s m args below meth c G b 2 (1 + 13 * 6 + 1 + 1 + 1 + 1 + jx) (6 + 833 * 6 + 4 + 4 + 6 + 20 + 8 * jx) (MQ below (o_Qc G b (oPc (fun T2 σ2 => oHd T2 aC ∧ oNx T T2 σ σ2 aC 103 ∧ (∀ i, σ2 aC i = σ aC i) ∧ ∀ i, σ2 (aC + 80) i = 0 ∧ σ2 (aC + 81) i = 0 ∧ σ2 (aC + 82) i = 0))) args s 103 5198 (fun q => b ≤ q)) Tj σj 73 [some (og aC), some (oi ((jx : Nat) : Int))] [] := by
      intro n
      induction n with
      | zero =>
        intro jx Tj σj hms
        exact absurd hms (Nat.not_lt_zero _)
      | succ n ih =>
        intro jx Tj σj hms j1 hQ2
        refine r_il1 (q := 74) C dX6_init_73 rfl ?_
        refine r_bipush (q := 76) C dX6_init_74 (by decide) rfl ?_
        refine r_icge (q := 98) (q2 := 79) C (by omega) (by omega) dX6_init_76 (by decide) rfl (fun br76 => ?_) (fun br76 => ?_)
        · refine r_vret C hr dX6_init_98 (by show 1 + 13 * 6 + 1 + 1 + 1 + 1 + jx ≤ 103; omega) (by show 6 + 833 * 6 + 4 + 4 + 6 + 20 + 8 * jx ≤ 5198; omega) ?_
          have hj20 : jx = 20 := by omega
          subst hj20
          obtain ⟨b1q, b2q, b3q, b4q, b5q⟩ := hQ2
          obtain ⟨⟨c1q, c2q, c3q, c4q⟩, c5q⟩ := hB24
          obtain ⟨d1q, d2q, d3q, d4q, d5q⟩ := hQk
          obtain ⟨⟨e1q, e2q, e3q, e4q⟩, e5q⟩ := hB1
          have c1q : T5.1 = Tk.1 + 4 := c1q
          have tk : Tk.1 = aC + 80 := by omega
          have tj : Tj.1 = aC + 104 := by omega
          have s95 : ∀ x, x < Tk.1 → Tj.2.1 x = Tk.2.1 x ∧ (x ≠ aC → Tj.2.2 x = Tk.2.2 x) := fun x hx => ⟨(b4q x (by omega)).1.trans (c2q x hx).1, fun hxa => (b4q x (by omega)).2.trans ((c2q x hx).2 hxa)⟩
          have hF : oFrm (aC + 2) Tk Tj := ⟨by omega, fun x x1 x2 => ⟨(s95 x x2).1, (s95 x x2).2 (by omega)⟩⟩
          have ar : ∀ g o N, T5.2.1 (Tk.1 + o) = (10, N) ∧ T5.2.2 aC g = some (Tk.1 + o) ∧ (∀ i, σ5 (Tk.1 + o) i = 0) → o < 3 → Tj.2.2 aC g = some (aC + (80 + o)) ∧ Tj.2.1 (aC + (80 + o)) = (10, N) ∧ ∀ i, σj (aC + (80 + o)) i = 0 := by
            intro g o N hg ho
            rw [show Tk.1 + o = aC + (80 + o) by omega] at hg
            refine ⟨?_, ?_, fun i => ?_⟩
            · rw [(b4q aC (by omega)).2]
              exact hg.2.1
            · rw [(b4q _ (by omega)).1]
              exact hg.1
            · rw [b5q _ (by omega)]
              exact hg.2.2 i
          have k0 := ar 2 0 4 (c3q 0 _ rfl) (by decide)
          have k1 := ar 3 1 4 (c3q 1 _ rfl) (by decide)
          have k2 := ar 4 2 6 (c3q 2 _ rfl) (by decide)
          refine ⟨rfl, ⟨(s95 aC (by omega)).1.trans hsB, ?_, k0.1, k1.1, k2.1, ?_, ?_, k0.2.1, k1.2.1, k2.2.1, b2q, fun ix hi => ⟨?_, ?_⟩, fun ix hi => ⟨?_, ?_⟩, by omega⟩, ⟨by omega, fun x hx => ⟨?_, ?_⟩, fun x hx => ?_⟩, fun ix => ?_, fun ix => ⟨k0.2.2 ix, k1.2.2 ix, k2.2.2 ix⟩⟩
          · rw [(b4q aC (by omega)).2, c5q 1 (by decide)]
            exact hrB
          · rw [(b4q aC (by omega)).2, (c3q 3 _ rfl).2.1]
            congr 1
            omega
          · rw [(s95 (aC + 1) (by omega)).1]
            exact d2q
          · rw [(s95 (aC + 1) (by omega)).2 (by omega), (d3q ix hi).1]
          · exact oEd_at (d3q ix hi).2 hF (Nat.le_add_right _ _)
          · rw [(b3q ix hi).1]
            congr 1
            omega
          · rw [show aC + 84 + ix = aC + 83 + 1 + 1 * ix by omega]
            exact (b3q ix hi).2.1
          · rw [(s95 x (by omega)).1, (d4q x (by omega)).1]
            exact (e2q x (by omega)).1
          · rw [(s95 x (by omega)).2 (by omega), (d4q x (by omega)).2, (e2q x (by omega)).2 (by omega)]
          · rw [b5q x (by omega), c4q x (by omega), d5q x (by omega), e4q x (by omega)]
          · rw [b5q aC (by omega), c4q aC (by omega), d5q aC (by omega), e4q aC (by omega)]
        · refine r_al0 (q := 80) C dX6_init_79 rfl ?_
          have hsJ : Tj.2.1 aC = (6, 0) := (hQ2.2.2.2.1 aC (by omega)).1.trans hs25
          have hrJ : Tj.2.2 aC 6 = some (aC + 83) := (congrFun (hQ2.2.2.2.1 aC (by omega)).2 6).trans hr25
          have tJ := hQ2.1
          refine r_getR (q := 83) C f_X6_30 dX6_init_80 rfl rfl (by assumption) (by assumption) (by omega) ?_
          refine r_il1 (q := 84) C dX6_init_83 rfl ?_
          refine r_new (q := 87) (N0 := 8) C nw_X6_28 rfl dX6_init_84 rfl ⟨by show 1 + 13 * 6 + 1 + 1 + 1 + 1 + jx + 1 ≤ 103; omega, by show 6 + 833 * 6 + 4 + 4 + 6 + 20 + 8 * jx + 8 ≤ 5198; omega⟩ ?_
          refine r_dup (q := 88) C dX6_init_87 rfl ?_
          refine r_callIN (q := 91) C (c_X7_init (aC := Tj.1)) C.2.2.2.2.2.1.2.1.1 ⟨⟨o_t1 101 rfl rfl, o_t1 4 rfl rfl, o_t1 102 rfl rfl⟩, rfl, by decide, by decide, by decide⟩ dX6_init_88 rfl rfl (by decide) ⟨by show 1 + 13 * 6 + 1 + 1 + 1 + 1 + jx + 1 + 0 ≤ 103; omega, by show 6 + 833 * 6 + 4 + 4 + 6 + 20 + 8 * jx + 8 + 0 ≤ 5198; omega⟩ (Nat.le_of_ble_eq_true rfl) (fun r6 T6 σ6 hσ6 => ?_)
          obtain ⟨rfl, rfl, rfl⟩ := hσ6
          simp only [Option.toList_none, List.nil_append]
          have hsA : (o_new Tj (7, 0)).2.1 (aC + 83) = (15, 20) := ((oNx_1 (σ := σj)).2.1 _ (by omega)).1.trans hQ2.2.1
          have hsV : (o_new Tj (7, 0)).2.1 Tj.1 = (7, 0) := o_new_s
          have tJ2 : (o_new Tj (7, 0)).1 = Tj.1 + 1 := rfl
          refine r_aast (q := 92) (ci := 7) (kd := 15) (x := 0) (Cn := RX7) C jx (by decide) rfl rfl (by decide) dX6_init_91 rfl hsA (by omega) hsV (by omega) rfl (by omega) (by decide) ?_
          refine r_iinc1 (q := 95) C dX6_init_92 rfl (by decide) ?_
          refine r_goto (q := 73) C dX6_init_95 (by decide) ?_
          have hz := ih (jx + 1) _ (o_new0 σj Tj.1) (by omega) (by omega) (oQ_s hQ2 P_Ln_st ⟨o_new_s, Nat.le_refl _⟩ oNx_1)
          rw [show 1 + 13 * 6 + 1 + 1 + 1 + 1 + (jx + 1) = 1 + 13 * 6 + 1 + 1 + 1 + 1 + jx + 1 + 0 by omega, show 6 + 833 * 6 + 4 + 4 + 6 + 20 + 8 * (jx + 1) = 6 + 833 * 6 + 4 + 4 + 6 + 20 + 8 * jx + 8 + 0 by omega] at hz
          exact hz
    exact lp2 _ 0 T5 σ5 (Nat.lt_succ_self _) (by omega) (oQ_0 (by omega) hsl)
  have lp1 : ∀ (n : Nat) (kx : Nat) (Tk : oT) (σk : oM), 6 - kx < n → (kx ≤ 6) → (oQ P_Ed T1 σ1 Tk σk (aC + 1) 6 13 13 kx) → oW p l ee ({ frames := 2, cells := 103, slots := 5198, locals := 41 } : Room) s m args below meth c G b 2 (1 + 13 * kx) (6 + 833 * kx) (MQ below (o_Qc G b (oPc (fun T2 σ2 => oHd T2 aC ∧ oNx T T2 σ σ2 aC 103 ∧ (∀ i, σ2 aC i = σ aC i) ∧ ∀ i, σ2 (aC + 80) i = 0 ∧ σ2 (aC + 81) i = 0 ∧ σ2 (aC + 82) i = 0))) args s 103 5198 (fun q => b ≤ q)) Tk σk 15 [some (og aC), some (oi ((kx : Nat) : Int))] [] := by
    intro n
    induction n with
    | zero =>
      intro kx Tk σk hms
      exact absurd hms (Nat.not_lt_zero _)
    | succ n ih =>
      intro kx Tk σk hms k1 hQ
      refine r_il1 (q := 16) C dX6_init_15 rfl ?_
      refine r_bipush (q := 18) C dX6_init_16 (by decide) rfl ?_
      refine r_icge (q := 40) (q2 := 21) C (by omega) (by omega) dX6_init_18 (by decide) rfl (fun br18 => ?_) (fun br18 => ?_)
      · have hk6 : kx = 6 := by omega
        subst hk6
        exact key2 Tk σk hQ
      · refine r_al0 (q := 22) C dX6_init_21 rfl ?_
        have hsK : Tk.2.1 aC = (6, 0) := (hQ.2.2.2.1 aC (by omega)).1.trans hs1
        have hrK : Tk.2.2 aC 1 = some (aC + 1) := (congrFun (hQ.2.2.2.1 aC (by omega)).2 1).trans hr1
        have tK := hQ.1
        refine r_getR (q := 25) C f_X6_11 dX6_init_22 rfl rfl (by assumption) (by assumption) (by omega) ?_
        refine r_il1 (q := 26) C dX6_init_25 rfl ?_
        refine r_new (q := 29) (N0 := 11) C nw_X6_9 rfl dX6_init_26 rfl ⟨by show 1 + 13 * kx + 1 ≤ 103; omega, by show 6 + 833 * kx + 11 ≤ 5198; omega⟩ ?_
        refine r_dup (q := 30) C dX6_init_29 rfl ?_
        refine r_callI (q := 33) C (c_X4_init (aC := Tk.1) o_new_s rfl) m_X6_17 dX6_init_30 rfl rfl (by decide) ⟨by show 1 + 13 * kx + 1 + 12 ≤ 103; omega, by show 6 + 833 * kx + 11 + 822 ≤ 5198; omega⟩ (Nat.le_of_ble_eq_true rfl) (fun r5 T5 σ5 hσ5 => ?_)
        obtain ⟨rfl, hE, hN0⟩ := hσ5
        simp only [Option.toList_none, List.nil_append]
        have hN := oNx_new hN0
        have t5 := hN.1
        have hsA : T5.2.1 (aC + 1) = (13, 6) := (hN.2.1 _ (by omega)).1.trans hQ.2.1
        have hsV : T5.2.1 Tk.1 = (4, 0) := hE.1
        refine r_aast (q := 34) (ci := 4) (kd := 13) (x := 0) (Cn := RX4) C kx (by decide) rfl rfl (by decide) dX6_init_33 rfl hsA (by omega) hsV (by omega) rfl (by omega) (by decide) ?_
        refine r_iinc1 (q := 37) C dX6_init_34 rfl (by decide) ?_
        refine r_goto (q := 15) C dX6_init_37 (by decide) ?_
        have hz := ih (kx + 1) _ σ5 (by omega) (by omega) (oQ_s hQ P_Ed_st hE hN)
        rw [show 1 + 13 * (kx + 1) = 1 + 13 * kx + 1 + 12 by omega, show 6 + 833 * (kx + 1) = 6 + 833 * kx + 11 + 822 by omega] at hz
        exact hz
  exact lp1 _ 0 T1 σ1 (Nat.lt_succ_self _) (by omega) (oQ_0 (by omega) hse)
