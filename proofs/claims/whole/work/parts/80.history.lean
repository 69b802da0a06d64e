set_option maxRecDepth 20000 in
set_option maxHeartbeats 8000000 in
theorem c_X5_init {T : oT} {σ : oM} {aC : Nat} (hs : T.2.1 aC = (5, 0)) (hT1 : T.1 = aC + 1) : MS yX5_init cX5_init 2 none 3 937 46863 62 [og aC] T σ (oPc (fun T2 σ2 => oHy T2 aC ∧ oNx T T2 σ σ2 aC 937 ∧ ∀ i, σ2 aC i = σ aC i)) := by
  have ha : aC < T.1 := by omega
  refine o_met (by decide +kernel) (Nat.le_of_ble_eq_true rfl) (fun p l ee s m args below meth c G b C hr hn => ?_)
  have C : oCx p s m args meth c G b RX5 cX5_init 2 := C
  show oW p l ee ({ frames := 3, cells := 937, slots := 46863, locals := 62 } : Room) s m args below meth c G b 2 0 0 (MQ below (o_Qc G b (oPc (fun T2 σ2 => oHy T2 aC ∧ oNx T T2 σ σ2 aC 937 ∧ ∀ i, σ2 aC i = σ aC i))) args s 937 46863 (fun q => b ≤ q)) T σ 0 [some (og aC), none] []
  refine r_al0 (q := 1) C dX5_init_0 rfl ?_
  refine r_obj (q := 4) C (o_t1 182 rfl rfl) dX5_init_1 rfl (by decide) (Nat.le_of_ble_eq_true rfl) ?_
  have hB0 := oBm_0 (T := T) (σ := σ) (a := aC)
  refine r_al0 (q := 5) C dX5_init_4 rfl ?_
  refine r_bipush (q := 7) C dX5_init_5 (by decide) rfl ?_
  refine r_anM (q := 13) (N := 9) (kd := 14) C (by decide) rfl (o_t1 183 rfl rfl) C.2.2.2.2.2.1.2.2.1.2.2.1 dX5_init_7 rfl (by decide) rfl ⟨by decide, by decide⟩ fp_X5_13 dX5_init_10 rfl rfl hn (fun _ => rfl) (fun _ => rfl) hB0 hs ha (by decide) (fun T1 σ1 hB1 => ?_)
  refine r_iconst (q := 14) C dX5_init_13 rfl ?_
  refine r_is1 (q := 15) C dX5_init_14 rfl (by decide) ?_
  have t1 : T1.1 = T.1 + 1 := hB1.1.1
  have hs1 : T1.2.1 aC = (5, 0) := (hB1.1.2.1 aC ha).1.trans hs
  have hr1 : T1.2.2 aC 0 = some (aC + 1) := by
    rw [(hB1.1.2.2.1 0 _ rfl).2.1]
    congr 1
  have hse : T1.2.1 (aC + 1) = (14, 9) := by
    rw [show aC + 1 = T.1 + 0 by omega]
    exact (hB1.1.2.2.1 0 _ rfl).1
  have lp1 : ∀ (n : Nat) (kx : Nat) (Tk : oT) (σk : oM), 9 - kx < n → (kx ≤ 9) → (oQ P_Hd T1 σ1 Tk σk (aC + 1) 9 14 104 kx) → oW p l ee ({ frames := 3, cells := 937, slots := 46863, locals := 62 } : Room) s m args below meth c G b 2 (1 + 104 * kx) (9 + 5206 * kx) (MQ below (o_Qc G b (oPc (fun T2 σ2 => oHy T2 aC ∧ oNx T T2 σ σ2 aC 937 ∧ ∀ i, σ2 aC i = σ aC i))) args s 937 46863 (fun q => b ≤ q)) Tk σk 15 [some (og aC), some (oi ((kx : Nat) : Int))] [] := by
    intro n
    induction n with
    | zero =>
      intro kx Tk σk hms
      exact absurd hms (Nat.not_lt_zero _)
    | succ n ih =>
      intro kx Tk σk hms k1 hQ
      refine r_il1 (q := 16) C dX5_init_15 rfl ?_
      refine r_bipush (q := 18) C dX5_init_16 (by decide) rfl ?_
      refine r_icge (q := 40) (q2 := 21) C (by omega) (by omega) dX5_init_18 (by decide) rfl (fun br18 => ?_) (fun br18 => ?_)
      · have tK := hQ.1
        refine r_vret C hr dX5_init_40 (by show 1 + 104 * kx ≤ 937; omega) (by show 9 + 5206 * kx ≤ 46863; omega) ?_
        have hk9 : kx = 9 := by omega
        subst hk9
        obtain ⟨d1q, d2q, d3q, d4q, d5q⟩ := hQ
        obtain ⟨⟨e1q, e2q, e3q, e4q⟩, e5q⟩ := hB1
        refine ⟨rfl, ⟨(d4q aC (by omega)).1.trans hs1, (congrFun (d4q aC (by omega)).2 0).trans hr1, d2q, fun ix hi => d3q ix hi, by omega⟩, ⟨by omega, fun x hx => ⟨?_, ?_⟩, fun x hx => ?_⟩, fun ix => ?_⟩
        · rw [(d4q x (by omega)).1]
          exact (e2q x (by omega)).1
        · rw [(d4q x (by omega)).2, (e2q x (by omega)).2 (by omega)]
        · rw [d5q x (by omega), e4q x (by omega)]
        · rw [d5q aC (by omega), e4q aC (by omega)]
      · refine r_al0 (q := 22) C dX5_init_21 rfl ?_
        have hsK : Tk.2.1 aC = (5, 0) := (hQ.2.2.2.1 aC (by omega)).1.trans hs1
        have hrK : Tk.2.2 aC 0 = some (aC + 1) := (congrFun (hQ.2.2.2.1 aC (by omega)).2 0).trans hr1
        have tK := hQ.1
        refine r_getR (q := 25) C f_X5_13 dX5_init_22 rfl rfl (by assumption) (by assumption) (by omega) ?_
        refine r_il1 (q := 26) C dX5_init_25 rfl ?_
        refine r_new (q := 29) (N0 := 8) C nw_X5_11 rfl dX5_init_26 rfl ⟨by show 1 + 104 * kx + 1 ≤ 937; omega, by show 9 + 5206 * kx + 8 ≤ 46863; omega⟩ ?_
        refine r_dup (q := 30) C dX5_init_29 rfl ?_
        refine r_callI (q := 33) C (c_X6_init (aC := Tk.1) o_new_s rfl) m_X5_17 dX5_init_30 rfl rfl (by decide) ⟨by show 1 + 104 * kx + 1 + 103 ≤ 937; omega, by show 9 + 5206 * kx + 8 + 5198 ≤ 46863; omega⟩ (Nat.le_of_ble_eq_true rfl) (fun r5 T5 σ5 hσ5 => ?_)
        obtain ⟨rfl, hE, hN0, -, -⟩ := hσ5
        simp only [Option.toList_none, List.nil_append]
        have hN := oNx_new hN0
        have t5 := hN.1
        have hsA : T5.2.1 (aC + 1) = (14, 9) := (hN.2.1 _ (by omega)).1.trans hQ.2.1
        have hsV : T5.2.1 Tk.1 = (6, 0) := hE.1
        refine r_aast (q := 34) (ci := 6) (kd := 14) (x := 0) (Cn := RX6) C kx (by decide) rfl rfl (by decide) dX5_init_33 rfl hsA (by omega) hsV (by omega) rfl (by omega) (by decide) ?_
        refine r_iinc1 (q := 37) C dX5_init_34 rfl (by decide) ?_
        refine r_goto (q := 15) C dX5_init_37 (by decide) ?_
        have hz := ih (kx + 1) _ σ5 (by omega) (by omega) (oQ_s hQ P_Hd_st hE hN)
        rw [show 1 + 104 * (kx + 1) = 1 + 104 * kx + 1 + 103 by omega, show 9 + 5206 * (kx + 1) = 9 + 5206 * kx + 8 + 5198 by omega] at hz
        exact hz
  exact lp1 _ 0 T1 σ1 (Nat.lt_succ_self _) (by omega) (oQ_0 (by omega) hse)
