/-! the library's parts -/
theorem oFrm_t {a : Nat} {T U V : oT} (h : oFrm a T U) (g : oFrm a U V) : oFrm a T V := ⟨Nat.le_trans h.1 g.1, fun x x1 x2 => ⟨(g.2 x x1 (by have := h.1; omega)).1.trans (h.2 x x1 x2).1, (g.2 x x1 (by have := h.1; omega)).2.trans (h.2 x x1 x2).2⟩⟩
theorem oFrm_n {T U : oT} {σ τ : oM} {a w fr : Nat} (h : oNx T U σ τ a w) (hT : T.1 ≤ a) : oFrm fr T U := oNx_frm h hT
/-- parts put into object a so far: field, where behind T.1 -/
def oPz (T U : oT) (σ τ : oM) (a w : Nat) (L : List (Nat × Nat)) : Prop := U.1 = T.1 + w ∧ (∀ x, x < T.1 → U.2.1 x = T.2.1 x ∧ (x ≠ a → U.2.2 x = T.2.2 x)) ∧ (∀ q ∈ L, U.2.2 a q.1 = some (T.1 + q.2)) ∧ ∀ x, x < T.1 → τ x = σ x
theorem oPz_0 {T : oT} {σ : oM} {a : Nat} : oPz T T σ σ a 0 [] := ⟨rfl, fun _ _ => ⟨rfl, fun _ => rfl⟩, fun q hq => absurd hq List.not_mem_nil, fun _ _ => rfl⟩
theorem oPz_s {T U T5 : oT} {σ τ σ5 : oM} {a w v f : Nat} {L : List (Nat × Nat)} (h : oPz T U σ τ a w L) (hN : oNx U T5 τ σ5 U.1 v) (ha : a < T.1) (hf : ∀ q ∈ L, q.1 ≠ f) : oPz T (T5.1, T5.2.1, o_rup T5.2.2 a f U.1) σ σ5 a (w + v) (L ++ [(f, w)]) := by
  obtain ⟨h1, h2, h3, h4⟩ := h
  obtain ⟨n1, n2, n3⟩ := hN
  refine ⟨by show T5.1 = _; omega, fun x hx => ⟨?_, fun hxa => ?_⟩, fun q hq => ?_, fun x hx => ?_⟩
  · show T5.2.1 x = T.2.1 x
    rw [(n2 x (by omega)).1]
    exact (h2 x hx).1
  · funext i
    show (if x = a ∧ i = f then some U.1 else T5.2.2 x i) = T.2.2 x i
    rw [if_neg (fun q => hxa q.1), (n2 x (by omega)).2, (h2 x hx).2 hxa]
  · show (if a = a ∧ q.1 = f then some U.1 else T5.2.2 a q.1) = some (T.1 + q.2)
    rcases List.mem_append.mp hq with hq | hq
    · rw [if_neg (fun c => hf q hq c.2), (n2 a (by omega)).2]
      exact h3 q hq
    · rw [List.mem_singleton.mp hq, if_pos ⟨rfl, rfl⟩, h1]
  · rw [n3 x (by omega)]
    exact h4 x hx
theorem oPz_q {T U Tk : oT} {σ τ τk : oM} {P : oT → oM → Nat → Prop} {a w a0 len kd v kx : Nat} {L : List (Nat × Nat)} (h : oPz T U σ τ a w L) (hQ : oQ P U τ Tk τk a0 len kd v kx) (ha : a < T.1) (h0 : U.1 = a0 + 1) (hT : T.1 ≤ a0) : oPz T Tk σ τk a (w + v * kx) L := by
  obtain ⟨h1, h2, h3, h4⟩ := h
  obtain ⟨d1, d2, d3, d4, d5⟩ := hQ
  refine ⟨by omega, fun x hx => ⟨?_, fun hxa => ?_⟩, fun q hq => ?_, fun x hx => ?_⟩
  · rw [(d4 x (by omega)).1]
    exact (h2 x hx).1
  · rw [(d4 x (by omega)).2, (h2 x hx).2 hxa]
  · rw [(d4 a (by omega)).2]
    exact h3 q hq
  · rw [d5 x (by omega), h4 x hx]
theorem oQ_frm {U Tk : oT} {τ τk : oM} {P : oT → oM → Nat → Prop} {fr a0 len kd v kx : Nat} {T : oT} (hQ : oQ P U τ Tk τk a0 len kd v kx) (hT : T.1 ≤ a0) (h : oFrm fr T U) : oFrm fr T Tk := ⟨by have := hQ.1; omega, fun x x1 x2 => ⟨(hQ.2.2.2.1 x (by omega)).1.trans (h.2 x x1 x2).1, (hQ.2.2.2.1 x (by omega)).2.trans (h.2 x x1 x2).2⟩⟩
theorem oCm_bl {U T4 : oT} {σ σ4 : oM} (h : oBl (o_new U (3, 0)) T4 (o_new0 σ U.1) σ4 U.1 [(3, 10, 198), (4, 10, 198), (5, 10, 198), (6, 10, 198)]) : oCm T4 U.1 ∧ oNx U T4 σ σ4 U.1 5 := by
  obtain ⟨h1, h2, h3, h4⟩ := h
  have h1 : T4.1 = U.1 + 1 + 4 := h1
  have k0 := h3 0 _ rfl
  have k1 := h3 1 _ rfl
  have k2 := h3 2 _ rfl
  have k3 := h3 3 _ rfl
  refine ⟨⟨((h2 U.1 (Nat.lt_succ_self _)).1).trans o_new_s, k0.2.1, k1.2.1, k2.2.1, k3.2.1, k0.1, k1.1, k2.1, k3.1, by omega⟩, oNx_new ⟨h1, fun x hx => ⟨(h2 x (Nat.lt_succ_of_lt hx)).1, (h2 x (Nat.lt_succ_of_lt hx)).2 (by omega)⟩, fun x hx => h4 x (Nat.lt_succ_of_lt hx)⟩⟩
theorem oBx_bl {U T4 : oT} {σ σ4 : oM} (h : oBl (o_new U (1, 0)) T4 (o_new0 σ U.1) σ4 U.1 [(2, 10, 8), (3, 10, 8)]) : P_Bx T4 σ4 U.1 ∧ oNx U T4 σ σ4 U.1 3 := by
  obtain ⟨h1, h2, h3, h4⟩ := h
  have h1 : T4.1 = U.1 + 1 + 2 := h1
  have k0 := h3 0 _ rfl
  have k1 := h3 1 _ rfl
  refine ⟨⟨⟨((h2 U.1 (Nat.lt_succ_self _)).1).trans o_new_s, k0.2.1, k1.2.1, k0.1, k1.1, by omega⟩, fun x x1 x2 i => ?_⟩, oNx_new ⟨h1, fun x hx => ⟨(h2 x (Nat.lt_succ_of_lt hx)).1, (h2 x (Nat.lt_succ_of_lt hx)).2 (by omega)⟩, fun x hx => h4 x (Nat.lt_succ_of_lt hx)⟩⟩
  rcases (show x = U.1 ∨ x = U.1 + 1 ∨ x = U.1 + 2 by omega) with rfl | rfl | rfl
  · rw [h4 _ (Nat.lt_succ_self _), o_new_z]
  · exact k0.2.2 i
  · exact k1.2.2 i
section OPT
variable {p : Program} {l : Launch} {e : Env} {R : Room} {s : State} {m : MethodId} {args : Array Value} {below : List Frame} {meth : Method} {c : Code} {G : oG} {b : Nat} {own : String} {cc : ByteArray} {nL k n pc q : Nat} {Q : State → Prop} {T T0 U : oT} {σ σ0 τ : oM} {ls : List (Option oV)} {st : List oV}
theorem r_putO (C : oCx p s m args meth c G b own cc nL) {idx ci f a x w v : Nat} {L : List (Nat × Nat)} (F : o_FP own idx ci f true) (hd : decode cc pc = .ok (.putfield idx, 3)) (hq : pc + 3 = q) (hi : (o_tyf ci f).isReference = true) (hm : meth.name = "<init>") (hn : ∀ d, narrow (o_tyf ci f) (.ref d) = .ref d) (hfit : ∀ d, fits (o_tyf ci f) (.ref d) = true) (hsa : T0.2.1 a = (ci, x)) (ha : a < T0.1) (hB : oPz T0 U σ0 τ a w L) (hN : oNx U T τ σ U.1 v) (hf : ∀ q ∈ L, q.1 ≠ f)
    (kk : ∀ T', oPz T0 T' σ0 σ a (w + v) (L ++ [(f, w)]) → oFrm T0.1 U T' → oFrm T0.1 T T' → oW p l e R s m args below meth c G b nL k n Q T' σ q ls st) : oW p l e R s m args below meth c G b nL k n Q T σ pc ls (og U.1 :: og a :: st) := by
  have h1 := hB.1
  have n1 := hN.1
  have hF : oFrm T0.1 T (T.1, T.2.1, o_rup T.2.2 a f U.1) := ⟨Nat.le_refl _, fun y y1 y2 => ⟨rfl, by
    funext i
    show (if y = a ∧ i = f then some U.1 else T.2.2 y i) = T.2.2 y i
    rw [if_neg (fun q => by omega)]⟩⟩
  refine r_putR (x := x) C F hd hq hi hm (hn _) (hfit _) ?_ (by omega) (kk _ (oPz_s hB hN ha hf) (oFrm_t (oFrm_n hN (Nat.le_refl _)) hF) hF)
  rw [(hN.2.1 a (by omega)).1, (hB.2.1 a ha).1, hsa]
end OPT
/-- an empty holding -/
theorem oHR_0 {σ : oM} {hC : Nat} (h0 : ∀ i, σ hC i = 0) (h1 : ∀ i, σ (hC + 80) i = 0 ∧ σ (hC + 81) i = 0 ∧ σ (hC + 82) i = 0) : oHR σ hC (fun _ => 0) :=
  oHR_mk (h0 0) (h0 5) (h0 7) (fun wx _ => (h1 wx).1) (fun wx _ => (h1 wx).2.1) (fun ix _ => (h1 ix).2.2) (fun lx hl => absurd hl (Nat.not_lt_zero _)) (fun ex he => absurd he (Nat.not_lt_zero _)) (fun ex he => absurd he (Nat.not_lt_zero _)) (fun ex he => absurd he (Nat.not_lt_zero _)) (fun ex he => absurd he (Nat.not_lt_zero _)) (fun ex he => absurd he (Nat.not_lt_zero _)) (fun ex he => absurd he (Nat.not_lt_zero _)) (fun ex he => absurd he (Nat.not_lt_zero _))
abbrev bx_0 : oBoxes := (fun _ => 0, fun _ => 0, fun _ => 0, fun _ => 0)
abbrev tl_0 : oTold := (-7, -7, -7, -7)
theorem oBR_0 {σ : oM} {xC : Nat} (h : ∀ x, xC + 1154 ≤ x → x < xC + 1163 → ∀ i, σ x i = 0) : oBR σ xC bx_0 := by
  intro ix hi
  refine ⟨⟨h _ (by omega) (by omega) _, Int.le_refl _, show (0 : Int) ≤ 3 by decide⟩, ⟨h _ (by omega) (by omega) _, Int.le_refl _, show (0 : Int) ≤ 8 by decide⟩, fun px hp => ⟨⟨h _ (by omega) (by omega) _, show (-1 : Int) ≤ 0 by decide, show (0 : Int) ≤ 5 by decide⟩, ⟨?_, ?_⟩, ⟨Int.le_refl _, show (0 : Int) ≤ 6 by decide⟩, fun hc => absurd hc (show ¬ ((px : Int) < 0) by omega)⟩⟩
  · rw [h _ (by omega) (by omega) _]
    decide
  · rw [h _ (by omega) (by omega) _]
    decide
set_option maxRecDepth 20000 in
set_option maxHeartbeats 8000000 in
theorem c_X8_init {T : oT} {σ : oM} {aC : Nat} (hs : T.2.1 aC = (8, 0)) (hT1 : T.1 = aC + 1) : MS yX8_init cX8_init 2 none 4 1226 58631 83 [og aC] T σ (oPc (fun T2 σ2 => oRC T2 σ2 aC (fun _ => 0) [] none (-7) tl_0 bx_0 0 (fun _ => 0) (-7) (-7) ∧ oNx T T2 σ σ2 aC 1226)) := by
  have ha : aC < T.1 := by omega
  refine o_met (by decide +kernel) (Nat.le_of_ble_eq_true rfl) (fun p l ee s m args below meth c G b C hr hn => ?_)
  have C : oCx p s m args meth c G b RX8 cX8_init 2 := C
  show oW p l ee ({ frames := 4, cells := 1226, slots := 58631, locals := 83 } : Room) s m args below meth c G b 2 0 0 (MQ below (o_Qc G b (oPc (fun T2 σ2 => oRC T2 σ2 aC (fun _ => 0) [] none (-7) tl_0 bx_0 0 (fun _ => 0) (-7) (-7) ∧ oNx T T2 σ σ2 aC 1226))) args s 1226 58631 (fun q => b ≤ q)) T σ 0 [some (og aC), none] []
  refine r_al0 (q := 1) C dX8_init_0 rfl ?_
  refine r_obj (q := 4) C (o_t1 23 rfl rfl) dX8_init_1 rfl (by decide) (Nat.le_of_ble_eq_true rfl) ?_
  have hp0 := oPz_0 (T := T) (σ := σ) (a := aC)
  refine r_al0 (q := 5) C dX8_init_4 rfl ?_
  refine r_new (q := 8) (N0 := 8) C nw_X8_7 rfl dX8_init_5 rfl ⟨by decide, by decide⟩ ?_
  refine r_dup (q := 9) C dX8_init_8 rfl ?_
  refine r_callI (q := 12) C (c_X6_init (aC := T.1) o_new_s rfl) m_X8_9 dX8_init_9 rfl rfl (by decide) ⟨by decide, by decide⟩ (Nat.le_of_ble_eq_true rfl) (fun r1 V1 σ1 hσ1 => ?_)
  obtain ⟨rfl, hE1, hN10, hy10, hz1⟩ := hσ1
  simp only [Option.toList_none, List.nil_append]
  have hN1 := oNx_new hN10
  have hy1 : ∀ i, σ1 T.1 i = 0 := fun i => by rw [hy10 i, o_new_z]
  refine r_putO (q := 15) C fp_X8_10 dX8_init_12 rfl rfl hn (fun _ => rfl) (fun _ => rfl) hs ha hp0 hN1 (by decide) (fun U1 hp1 fa1 fb1 => ?_)
  refine r_al0 (q := 16) C dX8_init_15 rfl ?_
  refine r_new (q := 19) (N0 := 8) C nw_X8_7 rfl dX8_init_16 rfl ⟨by decide, by decide⟩ ?_
  refine r_dup (q := 20) C dX8_init_19 rfl ?_
  refine r_callI (q := 23) C (c_X6_init (aC := U1.1) o_new_s rfl) m_X8_9 dX8_init_20 rfl rfl (by decide) ⟨by decide, by decide⟩ (Nat.le_of_ble_eq_true rfl) (fun r2 V2 σ2 hσ2 => ?_)
  obtain ⟨rfl, hE2, hN20, -, -⟩ := hσ2
  simp only [Option.toList_none, List.nil_append]
  have hN2 := oNx_new hN20
  refine r_putO (q := 26) C fp_X8_16 dX8_init_23 rfl rfl hn (fun _ => rfl) (fun _ => rfl) hs ha hp1 hN2 (by decide) (fun U2 hp2 fa2 fb2 => ?_)
  refine r_al0 (q := 27) C dX8_init_26 rfl ?_
  refine r_new (q := 30) (N0 := 3) C nw_X8_19 rfl dX8_init_27 rfl ⟨by decide, by decide⟩ ?_
  refine r_dup (q := 31) C dX8_init_30 rfl ?_
  refine r_callI (q := 34) C (c_X5_init (aC := U2.1) o_new_s rfl) m_X8_21 dX8_init_31 rfl rfl (by decide) ⟨by decide, by decide⟩ (Nat.le_of_ble_eq_true rfl) (fun r3 V3 σ3 hσ3 => ?_)
  obtain ⟨rfl, hE3, hN30, hy3⟩ := hσ3
  simp only [Option.toList_none, List.nil_append]
  have hN3 := oNx_new hN30
  have hz3 : ∀ i, σ3 U2.1 i = 0 := fun i => by rw [hy3 i, o_new_z]
  refine r_putO (q := 37) C fp_X8_22 dX8_init_34 rfl rfl hn (fun _ => rfl) (fun _ => rfl) hs ha hp2 hN3 (by decide) (fun U3 hp3 fa3 fb3 => ?_)
  refine r_al0 (q := 38) C dX8_init_37 rfl ?_
  refine r_new (q := 41) (N0 := 7) C nw_X8_26 rfl dX8_init_38 rfl ⟨by decide, by decide⟩ ?_
  refine r_dup (q := 42) C dX8_init_41 rfl ?_
  refine r_callI (q := 45) C (c_X3_init (aC := U3.1) o_new_s (Nat.lt_succ_self _)) m_X8_28 dX8_init_42 rfl rfl (by decide) ⟨by decide, by decide⟩ (Nat.le_of_ble_eq_true rfl) (fun r4 V4 σ4 hσ4 => ?_)
  obtain ⟨rfl, hB4⟩ := hσ4
  simp only [Option.toList_none, List.nil_append]
  obtain ⟨hE4, hN4⟩ := oCm_bl hB4
  refine r_putO (q := 48) C fp_X8_29 dX8_init_45 rfl rfl hn (fun _ => rfl) (fun _ => rfl) hs ha hp3 hN4 (by decide) (fun U4 hp4 fa4 fb4 => ?_)
  refine r_al0 (q := 49) C dX8_init_48 rfl ?_
  refine r_new (q := 52) (N0 := 5) C nw_X8_33 rfl dX8_init_49 rfl ⟨by decide, by decide⟩ ?_
  refine r_dup (q := 53) C dX8_init_52 rfl ?_
  refine r_callIN (q := 56) C (c_X0_init (aC := U4.1)) C.2.2.2.2.2.1.2.1.2.1 ⟨⟨o_t1 235 rfl rfl, o_t1 7 rfl rfl, o_t1 236 rfl rfl⟩, rfl, by decide, by decide, by decide⟩ dX8_init_53 rfl rfl (by decide) ⟨by decide, by decide⟩ (Nat.le_of_ble_eq_true rfl) (fun r5 V5 σ5 hσ5 => ?_)
  obtain ⟨rfl, rfl, e5q⟩ := hσ5
  simp only [Option.toList_none, List.nil_append]
  have hN5 : oNx U4 (o_new U4 (0, 0)) σ4 σ5 U4.1 1 := by
    rw [e5q]
    exact oNx_1
  have hz5 : σ5 (aC + 1152) = fun _ => 0 := by
    have w1 := hp1.1
    have w4 := hp4.1
    rw [e5q, show aC + 1152 = U4.1 by omega, o_new_z]
  refine r_putO (q := 59) C fp_X8_36 dX8_init_56 rfl rfl hn (fun _ => rfl) (fun _ => rfl) hs ha hp4 hN5 (by decide) (fun U5 hp5 fa5 fb5 => ?_)
  refine r_al0 (q := 60) C dX8_init_59 rfl ?_
  refine r_iconst (q := 61) C dX8_init_60 rfl ?_
  refine r_anew (q := 64) (N := 3) (kd := 12) C (by decide) rfl (o_t2 19 rfl rfl) C.2.2.2.2.2.1.2.2.1.1 dX8_init_61 rfl (by decide) rfl ⟨by decide, by decide⟩ ?_
  have hN6 : oNx U5 (o_new U5 (12, 3)) σ5 (o_new0 σ5 U5.1) U5.1 1 := oNx_1
  refine r_putO (q := 67) C fp_X8_42 dX8_init_64 rfl rfl hn (fun _ => rfl) (fun _ => rfl) hs ha hp5 hN6 (by decide) (fun U6 hp6 fa6 fb6 => ?_)
  refine r_iconst (q := 68) C dX8_init_67 rfl ?_
  refine r_is1 (q := 69) C dX8_init_68 rfl (by decide) ?_
  have w6 := hp6.1
  have w5 := hp5.1
  have hs6 : U6.2.1 aC = (8, 0) := (hp6.2.1 aC ha).1.trans hs
  have hr6 : U6.2.2 aC 5 = some (aC + 1153) := by
    rw [hp6.2.2.1 (5, 1152) (by decide)]
    congr 1
    omega
  have hsb : U6.2.1 (aC + 1153) = (12, 3) := by
    rw [show aC + 1153 = U5.1 by omega, (fb6.2 U5.1 (by omega) (Nat.lt_succ_self _)).1, o_new_s]
  have key2 : ∀ (Tk : oT) (σk : oM), (oQ P_Bx U6 (o_new0 σ5 U5.1) Tk σk (aC + 1153) 3 12 3 3) → (oPz T Tk σ σk aC (0 + 104 + 104 + 938 + 5 + 1 + 1 + 3 * 3) ([] ++ [(0, 0)] ++ [(1, 0 + 104)] ++ [(2, 0 + 104 + 104)] ++ [(3, 0 + 104 + 104 + 938)] ++ [(4, 0 + 104 + 104 + 938 + 5)] ++ [(5, 0 + 104 + 104 + 938 + 5 + 1)])) → oW p l ee ({ frames := 4, cells := 1226, slots := 58631, locals := 83 } : Room) s m args below meth c G b 2 (1153 + 3 * 3) (58085 + 20 * 3) (MQ below (o_Qc G b (oPc (fun T2 σ2 => oRC T2 σ2 aC (fun _ => 0) [] none (-7) tl_0 bx_0 0 (fun _ => 0) (-7) (-7) ∧ oNx T T2 σ σ2 aC 1226))) args s 1226 58631 (fun q => b ≤ q)) Tk σk 93 [some (og aC), some (oi ((3 : Nat) : Int))] [] := by
    intro Tk σk hQk hpk
    refine r_al0 (q := 94) C dX8_init_93 rfl ?_
    refine r_new (q := 97) (N0 := 6) C nw_X8_47 rfl dX8_init_94 rfl ⟨by decide, by decide⟩ ?_
    refine r_dup (q := 98) C dX8_init_97 rfl ?_
    refine r_callI (q := 101) C (c_X2_init (aC := Tk.1) o_new_s rfl) m_X8_49 dX8_init_98 rfl rfl (by decide) ⟨by decide, by decide⟩ (Nat.le_of_ble_eq_true rfl) (fun r7 V7 σ7 hσ7 => ?_)
    obtain ⟨rfl, hE7, hN70, hy7⟩ := hσ7
    simp only [Option.toList_none, List.nil_append]
    have hN7 := oNx_new hN70
    have hz7 : ∀ i, σ7 Tk.1 i = 0 := fun i => by rw [hy7 i, o_new_z]
    refine r_putO (q := 104) C fp_X8_50 dX8_init_101 rfl rfl hn (fun _ => rfl) (fun _ => rfl) hs ha hpk hN7 (by decide) (fun U7 hp7 fa7 fb7 => ?_)
    have hs7 : U7.2.1 aC = (8, 0) := (hp7.2.1 aC ha).1.trans hs
    have u70 := hp7.1
    refine r_al0 (q := 105) C dX8_init_104 rfl ?_
    refine r_iconst (q := 106) C dX8_init_105 rfl ?_
    refine r_putZ (q := 109) C fp_X8_54 dX8_init_106 rfl rfl (by decide) (by assumption) (by omega) ?_
    refine r_al0 (q := 110) C dX8_init_109 rfl ?_
    refine r_bipush (q := 112) C dX8_init_110 (by decide) rfl ?_
    refine r_putI (q := 115) C fp_X8_58 dX8_init_112 rfl rfl (by assumption) (by omega) ?_
    refine r_al0 (q := 116) C dX8_init_115 rfl ?_
    refine r_bipush (q := 118) C dX8_init_116 (by decide) rfl ?_
    refine r_putI (q := 121) C fp_X8_62 dX8_init_118 rfl rfl (by assumption) (by omega) ?_
    refine r_al0 (q := 122) C dX8_init_121 rfl ?_
    refine r_bipush (q := 124) C dX8_init_122 (by decide) rfl ?_
    refine r_putI (q := 127) C fp_X8_65 dX8_init_124 rfl rfl (by assumption) (by omega) ?_
    refine r_vret C hr dX8_init_127 (by decide) (by decide) ?_
    have u1 := hp1.1
    have u2 := hp2.1
    have u3 := hp3.1
    have u4 := hp4.1
    have u5 := hp5.1
    have u6 := hp6.1
    have tk := hQk.1
    have u7 := hp7.1
    have p0 : U7.2.2 aC 0 = some (T.1 + 0) := hp7.2.2.1 (0, 0) (by decide)
    have p1 : U7.2.2 aC 1 = some (T.1 + 104) := hp7.2.2.1 (1, 104) (by decide)
    have p2 : U7.2.2 aC 2 = some (T.1 + 208) := hp7.2.2.1 (2, 208) (by decide)
    have p3 : U7.2.2 aC 3 = some (T.1 + 1146) := hp7.2.2.1 (3, 1146) (by decide)
    have p4 : U7.2.2 aC 4 = some (T.1 + 1151) := hp7.2.2.1 (4, 1151) (by decide)
    have p5 : U7.2.2 aC 5 = some (T.1 + 1152) := hp7.2.2.1 (5, 1152) (by decide)
    have p6 : U7.2.2 aC 6 = some (T.1 + 1162) := hp7.2.2.1 (6, 1162) (by decide)
    have ut : U1.1 = aC + 105 ∧ U2.1 = aC + 209 ∧ U3.1 = aC + 1147 ∧ U4.1 = aC + 1152 ∧ U5.1 = aC + 1153 ∧ U6.1 = aC + 1154 ∧ Tk.1 = aC + 1163 ∧ U7.1 = aC + 1227 := by omega
    obtain ⟨v1, v2, v3, v4, v5, v6, v8, v7⟩ := ut
    rw [hT1] at p0 p1 p2 p3 p4 p5 p6
    have k6 : oFrm T.1 U5 Tk := oQ_frm hQk (by omega) fa6
    have f5 : oFrm T.1 U5 U7 := oFrm_t k6 fa7
    have f4 : oFrm T.1 U4 U7 := oFrm_t fa5 f5
    have f3 : oFrm T.1 U3 U7 := oFrm_t fa4 f4
    have f2 : oFrm T.1 U2 U7 := oFrm_t fa3 f3
    have f1 : oFrm T.1 U1 U7 := oFrm_t fa2 f2
    have hE1 := oHd_at hE1 (oFrm_t fb1 f1) (Nat.le_refl _)
    have hE2 := oHd_at hE2 (oFrm_t fb2 f2) (by omega)
    have hE3 := oHy_at hE3 (oFrm_t fb3 f3) (by omega)
    have hE4 := oCm_at hE4 (oFrm_t fb4 f4) (by omega)
    have hE7 := oTx_at hE7 fb7 (by omega)
    have s5 : U7.2.1 U4.1 = (0, 0) := ((oFrm_t fb5 f5).2 U4.1 (by omega) (Nat.lt_succ_self _)).1.trans o_new_s
    have sk : ∀ x, T.1 ≤ x → x < Tk.1 → U7.2.1 x = Tk.2.1 x ∧ U7.2.2 x = Tk.2.2 x := fun x x1 x2 => fa7.2 x x1 x2
    have y7 : ∀ x, x < Tk.1 → σ7 x = σk x := fun x hx => hN7.2.2 x hx
    have y6 : ∀ x, x < U5.1 → σ7 x = σ5 x := fun x hx => (y7 x (by omega)).trans ((hQk.2.2.2.2 x (by omega)).trans (hN6.2.2 x hx))
    have y5 : ∀ x, x < U4.1 → σ7 x = σ4 x := fun x hx => (y6 x (by omega)).trans (hN5.2.2 x hx)
    have y4 : ∀ x, x < U3.1 → σ7 x = σ3 x := fun x hx => (y5 x (by omega)).trans (hN4.2.2 x hx)
    have y3 : ∀ x, x < U2.1 → σ7 x = σ2 x := fun x hx => (y4 x (by omega)).trans (hN3.2.2 x hx)
    have y2 : ∀ x, x < U1.1 → σ7 x = σ1 x := fun x hx => (y3 x (by omega)).trans (hN2.2.2 x hx)
    have yx : ∀ x, x < T.1 → σ7 x = σ x := fun x hx => (y2 x (by omega)).trans (hN1.2.2 x hx)
    have q7 : ∀ x, x ≠ aC → (o_up (o_up (o_up (o_up σ7 aC 7 0) aC 8 (-7)) aC 9 (-7)) aC 10 (-7)) x = σ7 x := fun x hx => by rw [o_up_ne hx, o_up_ne hx, o_up_ne hx, o_up_ne hx]
    rw [hT1] at hE1 hz1 hy1
    rw [v1] at hE2
    rw [v2] at hE3 hz3
    rw [v3] at hE4
    rw [v4] at s5
    rw [v8] at hE7 hz7
    have z1 : ∀ i, (o_up (o_up (o_up (o_up σ7 aC 7 0) aC 8 (-7)) aC 9 (-7)) aC 10 (-7)) (aC + 1) i = 0 := fun i => by rw [q7 _ (by omega), y2 _ (by omega)]; exact hy1 i
    have z2 : ∀ i, (o_up (o_up (o_up (o_up σ7 aC 7 0) aC 8 (-7)) aC 9 (-7)) aC 10 (-7)) (aC + 1 + 80) i = 0 ∧ (o_up (o_up (o_up (o_up σ7 aC 7 0) aC 8 (-7)) aC 9 (-7)) aC 10 (-7)) (aC + 1 + 81) i = 0 ∧ (o_up (o_up (o_up (o_up σ7 aC 7 0) aC 8 (-7)) aC 9 (-7)) aC 10 (-7)) (aC + 1 + 82) i = 0 := fun i => by rw [q7 _ (by omega), q7 _ (by omega), q7 _ (by omega), y2 _ (by omega), y2 _ (by omega), y2 _ (by omega)]; exact hz1 i
    have z3 : ∀ i, (o_up (o_up (o_up (o_up σ7 aC 7 0) aC 8 (-7)) aC 9 (-7)) aC 10 (-7)) (aC + 209) i = 0 := fun i => by rw [q7 _ (by omega), y4 _ (by omega)]; exact hz3 i
    have z5 : ∀ i, (o_up (o_up (o_up (o_up σ7 aC 7 0) aC 8 (-7)) aC 9 (-7)) aC 10 (-7)) (aC + 1152) i = 0 := fun i => by rw [q7 _ (by omega), y6 _ (by omega), hz5]
    have z7 : ∀ i, (o_up (o_up (o_up (o_up σ7 aC 7 0) aC 8 (-7)) aC 9 (-7)) aC 10 (-7)) (aC + 1163) i = 0 := fun i => by rw [q7 _ (by omega)]; exact hz7 i
    have zb : ∀ x, aC + 1154 ≤ x → x < aC + 1163 → ∀ i, (o_up (o_up (o_up (o_up σ7 aC 7 0) aC 8 (-7)) aC 9 (-7)) aC 10 (-7)) x i = 0 := fun x x1 x2 i => by
      rw [q7 _ (by omega), y7 _ (by omega)]
      have hd3 := hQk.2.2.1
      rcases (show x < aC + 1153 + 1 + 3 * 0 + 3 ∨ (aC + 1153 + 1 + 3 * 1 ≤ x ∧ x < aC + 1153 + 1 + 3 * 1 + 3) ∨ aC + 1153 + 1 + 3 * 2 ≤ x by omega) with hc | hc | hc
      · exact (hd3 0 (by decide)).2.2 x (by omega) hc i
      · exact (hd3 1 (by decide)).2.2 x hc.1 hc.2 i
      · exact (hd3 2 (by decide)).2.2 x hc (by omega) i
    refine ⟨rfl, ⟨⟨(hp7.2.1 aC ha).1.trans hs, p0, p1, p2, p3, p4, p5, p6, hE1, hE2, hE3, hE4, s5, ?_, fun ix hi => ⟨?_, ?_⟩, hE7.1, by omega⟩, hE7, oHR_0 z1 z2, ⟨0, 0, z3 1, by decide, z3 2, rfl, by decide, fun kx B hB => by simp at hB⟩, ?_, Or.inl ⟨z5 0, rfl⟩, oBR_0 zb, ⟨z7 1, by decide, fun jx hj => absurd hj (Nat.not_lt_zero _)⟩, ?_, ?_, ?_⟩, by omega, fun x hx => ⟨(hp7.2.1 x (by omega)).1, (hp7.2.1 x (by omega)).2 (by omega)⟩, fun x hx => by rw [q7 x (by omega)]; exact yx x (by omega)⟩
    · rw [(sk (aC + 1153) (by omega) (by omega)).1]
      exact hQk.2.1
    · rw [(sk (aC + 1153) (by omega) (by omega)).2, (hQk.2.2.1 ix hi).1]
    · exact oBx_at (hQk.2.2.1 ix hi).2.1 fa7 (by omega)
    · show (o_up (o_up (o_up (o_up σ7 aC 7 0) aC 8 (-7)) aC 9 (-7)) aC 10 (-7)) aC 7 = 0
      rw [o_up_nj (Or.inr (by decide)), o_up_nj (Or.inr (by decide)), o_up_nj (Or.inr (by decide)), o_up_at]
    · show (o_up (o_up (o_up (o_up σ7 aC 7 0) aC 8 (-7)) aC 9 (-7)) aC 10 (-7)) aC 10 = -7
      rw [o_up_at]
    · show (o_up (o_up (o_up (o_up σ7 aC 7 0) aC 8 (-7)) aC 9 (-7)) aC 10 (-7)) aC 8 = -7
      rw [o_up_nj (Or.inr (by decide)), o_up_nj (Or.inr (by decide)), o_up_at]
    · show (o_up (o_up (o_up (o_up σ7 aC 7 0) aC 8 (-7)) aC 9 (-7)) aC 10 (-7)) aC 9 = -7
      rw [o_up_nj (Or.inr (by decide)), o_up_at]
  have lp1 : ∀ (n : Nat) (kx : Nat) (Tk : oT) (σk : oM), 3 - kx < n → (kx ≤ 3) → (oQ P_Bx U6 (o_new0 σ5 U5.1) Tk σk (aC + 1153) 3 12 3 kx) → oW p l ee ({ frames := 4, cells := 1226, slots := 58631, locals := 83 } : Room) s m args below meth c G b 2 (1153 + 3 * kx) (58085 + 20 * kx) (MQ below (o_Qc G b (oPc (fun T2 σ2 => oRC T2 σ2 aC (fun _ => 0) [] none (-7) tl_0 bx_0 0 (fun _ => 0) (-7) (-7) ∧ oNx T T2 σ σ2 aC 1226))) args s 1226 58631 (fun q => b ≤ q)) Tk σk 69 [some (og aC), some (oi ((kx : Nat) : Int))] [] := by
    intro n
    induction n with
    | zero =>
      intro kx Tk σk hms
      exact absurd hms (Nat.not_lt_zero _)
    | succ n ih =>
      intro kx Tk σk hms k1 hQ
      refine r_il1 (q := 70) C dX8_init_69 rfl ?_
      refine r_iconst (q := 71) C dX8_init_70 rfl ?_
      refine r_icge (q := 93) (q2 := 74) C (by omega) (by omega) dX8_init_71 (by decide) rfl (fun br71 => ?_) (fun br71 => ?_)
      · have hk3 : kx = 3 := by omega
        subst hk3
        exact key2 Tk σk hQ (oPz_q hp6 hQ ha (by omega) (by omega))
      · refine r_al0 (q := 75) C dX8_init_74 rfl ?_
        have hsK : Tk.2.1 aC = (8, 0) := (hQ.2.2.2.1 aC (by omega)).1.trans hs6
        have hrK : Tk.2.2 aC 5 = some (aC + 1153) := (congrFun (hQ.2.2.2.1 aC (by omega)).2 5).trans hr6
        have tK := hQ.1
        refine r_getR (q := 78) C f_X8_42 dX8_init_75 rfl rfl (by assumption) (by assumption) (by omega) ?_
        refine r_il1 (q := 79) C dX8_init_78 rfl ?_
        refine r_new (q := 82) (N0 := 4) C nw_X8_40 rfl dX8_init_79 rfl ⟨by show 1153 + 3 * kx + 1 ≤ 1226; omega, by show 58085 + 20 * kx + 4 ≤ 58631; omega⟩ ?_
        refine r_dup (q := 83) C dX8_init_82 rfl ?_
        refine r_callI (q := 86) C (c_X1_init (aC := Tk.1) o_new_s (Nat.lt_succ_self _)) m_X8_46 dX8_init_83 rfl rfl (by decide) ⟨by show 1153 + 3 * kx + 1 + 2 ≤ 1226; omega, by show 58085 + 20 * kx + 4 + 16 ≤ 58631; omega⟩ (Nat.le_of_ble_eq_true rfl) (fun r8 T8 σ8 hσ8 => ?_)
        obtain ⟨rfl, hB8⟩ := hσ8
        simp only [Option.toList_none, List.nil_append]
        obtain ⟨hE, hN⟩ := oBx_bl hB8
        have t8 := hN.1
        have hsA : T8.2.1 (aC + 1153) = (12, 3) := (hN.2.1 _ (by omega)).1.trans hQ.2.1
        have hsV : T8.2.1 Tk.1 = (1, 0) := hE.1.1
        refine r_aast (q := 87) (ci := 1) (kd := 12) (x := 0) (Cn := RX1) C kx (by decide) rfl rfl (by decide) dX8_init_86 rfl hsA (by omega) hsV (by omega) rfl (by omega) (by decide) ?_
        refine r_iinc1 (q := 90) C dX8_init_87 rfl (by decide) ?_
        refine r_goto (q := 69) C dX8_init_90 (by decide) ?_
        have hz := ih (kx + 1) _ σ8 (by omega) (by omega) (oQ_s hQ P_Bx_st hE hN)
        rw [show 1153 + 3 * (kx + 1) = 1153 + 3 * kx + 1 + 2 by omega, show 58085 + 20 * (kx + 1) = 58085 + 20 * kx + 4 + 16 by omega] at hz
        exact hz
  exact lp1 _ 0 U6 _ (Nat.lt_succ_self _) (by omega) (oQ_0 (by omega) hsb)
