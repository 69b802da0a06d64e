/-! constructors that make arrays of arrays -/
/-- as oBl, and the object's other fields stay -/
def oBm (T Tk : oT) (σ σk : oM) (a : Nat) (L : List (Nat × Nat × Nat)) : Prop := oBl T Tk σ σk a L ∧ ∀ f, (∀ q ∈ L, q.1 ≠ f) → Tk.2.2 a f = T.2.2 a f
theorem oBm_0 {T : oT} {σ : oM} {a : Nat} : oBm T T σ σ a [] := ⟨oBl_0, fun _ _ => rfl⟩
theorem oBm_s {T Tk : oT} {σ σk : oM} {a f kd N : Nat} {L : List (Nat × Nat × Nat)} (h : oBm T Tk σ σk a L) (ha : a < T.1) (hf : ∀ q ∈ L, q.1 ≠ f) : oBm T ((o_new Tk (kd, N)).1, (o_new Tk (kd, N)).2.1, o_rup (o_new Tk (kd, N)).2.2 a f Tk.1) σ (o_new0 σk Tk.1) a (L ++ [(f, kd, N)]) := by
  refine ⟨oBl_s h.1 ha hf, fun g hg => ?_⟩
  have h1 := h.1.1
  show (if a = a ∧ g = f then some Tk.1 else (if a = Tk.1 then fun _ => none else Tk.2.2 a) g) = T.2.2 a g
  rw [if_neg (fun q => hg (f, kd, N) (List.mem_append_right _ (List.mem_singleton.mpr rfl)) q.2.symm), if_neg (by omega)]
  exact h.2 g (fun q hq => hg q (List.mem_append_left _ hq))
/-- a grid behind T, of object a's field f -/
def oGr (T T2 : oT) (σ σ2 : oM) (a f N M : Nat) : Prop := T2.1 = T.1 + (1 + N) ∧ (∀ x, x < T.1 → T2.2.1 x = T.2.1 x ∧ (x ≠ a → T2.2.2 x = T.2.2 x)) ∧ T2.2.2 a f = some T.1 ∧ (∀ g, g ≠ f → T2.2.2 a g = T.2.2 a g) ∧ T2.2.1 T.1 = (16, N) ∧ (∀ j, j < N → T2.2.2 T.1 j = some (T.1 + 1 + j) ∧ T2.2.1 (T.1 + 1 + j) = (10, M)) ∧ (∀ x, T.1 ≤ x → ∀ i, σ2 x i = 0) ∧ ∀ x, x < T.1 → σ2 x = σ x
theorem oGr_mk {T : oT} {σ : oM} {a f N M : Nat} (ha : a < T.1) : oGr T ((o_grid T N M).1, (o_grid T N M).2.1, o_rup (o_grid T N M).2.2 a f T.1) σ (o_grid0 σ T.1) a f N M := by
  refine ⟨Nat.add_assoc _ _ _, fun x hx => ⟨if_pos hx, fun hxa => ?_⟩, ?_, fun g hg => ?_, ?_, fun j hj => ⟨?_, ?_⟩, fun x hx i => ?_, fun x hx => if_pos hx⟩
  · funext i
    show (if x = a ∧ i = f then some T.1 else (if x < T.1 then T.2.2 x else _) i) = T.2.2 x i
    rw [if_neg (fun q => hxa q.1), if_pos hx]
  · show (if a = a ∧ f = f then some T.1 else _) = some T.1
    rw [if_pos ⟨rfl, rfl⟩]
  · show (if a = a ∧ g = f then some T.1 else (if a < T.1 then T.2.2 a else _) g) = T.2.2 a g
    rw [if_neg (fun q => hg q.2), if_pos ha]
  · show (if T.1 < T.1 then T.2.1 T.1 else if T.1 = T.1 then (16, N) else (10, M)) = (16, N)
    rw [if_neg (Nat.lt_irrefl _), if_pos rfl]
  · show (if T.1 = a ∧ j = f then some T.1 else (if T.1 < T.1 then T.2.2 T.1 else if T.1 = T.1 then (fun j => if j < N then some (T.1 + 1 + j) else none) else fun _ => none) j) = some (T.1 + 1 + j)
    rw [if_neg (by omega), if_neg (Nat.lt_irrefl _), if_pos rfl, if_pos hj]
  · show (if T.1 + 1 + j < T.1 then T.2.1 (T.1 + 1 + j) else if T.1 + 1 + j = T.1 then (16, N) else (10, M)) = (10, M)
    rw [if_neg (by omega), if_neg (by omega)]
  · show (if x < T.1 then σ x else fun _ => 0) i = 0
    rw [if_neg (by omega)]
section OBM
variable {p : Program} {l : Launch} {e : Env} {R : Room} {s : State} {m : MethodId} {args : Array Value} {below : List Frame} {meth : Method} {c : Code} {G : oG} {b : Nat} {own : String} {cc : ByteArray} {nL k n pc q : Nat} {Q : State → Prop} {T T0 : oT} {σ σ0 : oM} {ls : List (Option oV)} {st : List oV}
theorem r_naM (C : oCx p s m args meth c G b own cc nL) {N idx ci f a x pc2 : Nat} {z : Int} {L : List (Nat × Nat × Nat)} (hd : decode cc pc = .ok (.newarray .int, 2)) (hp2 : pc + 2 = pc2) (hN : N ≤ 100000) (hz : z = (N : Int)) (hr : k + 1 ≤ R.cells ∧ n + N ≤ R.slots) (F : o_FP own idx ci f true) (hd2 : decode cc pc2 = .ok (.putfield idx, 3)) (hq : pc2 + 3 = q) (hi : (o_tyf ci f).isReference = true) (hm : meth.name = "<init>") (hn : ∀ d, narrow (o_tyf ci f) (.ref d) = .ref d) (hfit : ∀ d, fits (o_tyf ci f) (.ref d) = true) (hB : oBm T0 T σ0 σ a L) (hsa : T0.2.1 a = (ci, x)) (ha : a < T0.1) (hf : ∀ q ∈ L, q.1 ≠ f)
    (kk : ∀ T' σ', oBm T0 T' σ0 σ' a (L ++ [(f, 10, N)]) → oW p l e R s m args below meth c G b nL (k + 1) (n + N) Q T' σ' q ls st) : oW p l e R s m args below meth c G b nL k n Q T σ pc ls (oi z :: og a :: st) := by
  refine r_newI C hd hp2 hN hz hr ?_
  have h1 := hB.1.1
  have h2 := (hB.1.2.1 a ha).1
  refine r_putR (x := x) C F hd2 hq hi hm (hn _) (hfit _) ?_ ?_ (kk _ _ (oBm_s hB ha hf))
  · show (if a = T.1 then (10, N) else T.2.1 a) = (ci, x)
    rw [if_neg (by omega), h2, hsa]
  · show a < T.1 + 1
    omega
theorem r_naMC (C : oCx p s m args meth c G b own cc nL) {N idx ci f a x pc2 : Nat} {z : Int} {L : List (Nat × Nat × Nat)} (hd : decode cc pc = .ok (.newarray .char, 2)) (hp2 : pc + 2 = pc2) (hN : N ≤ 100000) (hz : z = (N : Int)) (hr : k + 1 ≤ R.cells ∧ n + N ≤ R.slots) (F : o_FP own idx ci f true) (hd2 : decode cc pc2 = .ok (.putfield idx, 3)) (hq : pc2 + 3 = q) (hi : (o_tyf ci f).isReference = true) (hm : meth.name = "<init>") (hn : ∀ d, narrow (o_tyf ci f) (.ref d) = .ref d) (hfit : ∀ d, fits (o_tyf ci f) (.ref d) = true) (hB : oBm T0 T σ0 σ a L) (hsa : T0.2.1 a = (ci, x)) (ha : a < T0.1) (hf : ∀ q ∈ L, q.1 ≠ f)
    (kk : ∀ T' σ', oBm T0 T' σ0 σ' a (L ++ [(f, 11, N)]) → oW p l e R s m args below meth c G b nL (k + 1) (n + N) Q T' σ' q ls st) : oW p l e R s m args below meth c G b nL k n Q T σ pc ls (oi z :: og a :: st) := by
  refine r_newC C hd hp2 hN hz hr ?_
  have h1 := hB.1.1
  have h2 := (hB.1.2.1 a ha).1
  refine r_putR (x := x) C F hd2 hq hi hm (hn _) (hfit _) ?_ ?_ (kk _ _ (oBm_s hB ha hf))
  · show (if a = T.1 then (11, N) else T.2.1 a) = (ci, x)
    rw [if_neg (by omega), h2, hsa]
  · show a < T.1 + 1
    omega
theorem r_anM (C : oCx p s m args meth c G b own cc nL) {N aidx kd idx ci f a x pc2 : Nat} {Cn : String} {z : Int} {L : List (Nat × Nat × Nat)} (hk12 : 12 ≤ kd) (ht : (o_tys G)[kd - 10]? = some (G.1.2 kd, .object Cn)) (w1 : Cond.classLink own aidx Cn ∈ oALL) (hAO : va_AO Cn s) (hd : decode cc pc = .ok (.anewarray aidx, 3)) (hp2 : pc + 3 = pc2) (hN : N ≤ 100000) (hz : z = (N : Int)) (hr : k + 1 ≤ R.cells ∧ n + N ≤ R.slots) (F : o_FP own idx ci f true) (hd2 : decode cc pc2 = .ok (.putfield idx, 3)) (hq : pc2 + 3 = q) (hi : (o_tyf ci f).isReference = true) (hm : meth.name = "<init>") (hn : ∀ d, narrow (o_tyf ci f) (.ref d) = .ref d) (hfit : ∀ d, fits (o_tyf ci f) (.ref d) = true) (hB : oBm T0 T σ0 σ a L) (hsa : T0.2.1 a = (ci, x)) (ha : a < T0.1) (hf : ∀ q ∈ L, q.1 ≠ f)
    (kk : ∀ T' σ', oBm T0 T' σ0 σ' a (L ++ [(f, kd, N)]) → oW p l e R s m args below meth c G b nL (k + 1) (n + N) Q T' σ' q ls st) : oW p l e R s m args below meth c G b nL k n Q T σ pc ls (oi z :: og a :: st) := by
  refine r_anew C hk12 ht w1 hAO hd hp2 hN hz hr ?_
  have h1 := hB.1.1
  have h2 := (hB.1.2.1 a ha).1
  refine r_putR (x := x) C F hd2 hq hi hm (hn _) (hfit _) ?_ ?_ (kk _ _ (oBm_s hB ha hf))
  · show (if a = T.1 then (kd, N) else T.2.1 a) = (ci, x)
    rw [if_neg (by omega), h2, hsa]
  · show a < T.1 + 1
    omega
theorem r_mnF (C : oCx p s m args meth c G b own cc nL) {gidx N M idx ci f a x pc2 : Nat} {z w : Int} (w1 : Cond.classLink own gidx "[[I" ∈ oALL) (hd : decode cc pc = .ok (.multianewarray gidx 2, 4)) (hp2 : pc + 4 = pc2) (hN : N ≤ 1000) (hM : M ≤ 1000) (hz : z = (N : Int)) (hw : w = (M : Int)) (hr : k + (1 + N) ≤ R.cells ∧ n + (N + N * M) ≤ R.slots) (F : o_FP own idx ci f true) (hd2 : decode cc pc2 = .ok (.putfield idx, 3)) (hq : pc2 + 3 = q) (hi : (o_tyf ci f).isReference = true) (hm : meth.name = "<init>") (hn : ∀ d, narrow (o_tyf ci f) (.ref d) = .ref d) (hfit : ∀ d, fits (o_tyf ci f) (.ref d) = true) (hsa : T.2.1 a = (ci, x)) (ha : a < T.1)
    (kk : ∀ T' σ', oGr T T' σ σ' a f N M → oW p l e R s m args below meth c G b nL (k + 1 + N) (n + N + N * M) Q T' σ' q ls st) : oW p l e R s m args below meth c G b nL k n Q T σ pc ls (oi w :: oi z :: og a :: st) := by
  refine r_mna C w1 hd hp2 hN hM hz hw hr ?_
  refine r_putR (x := x) C F hd2 hq hi hm (hn _) (hfit _) ?_ ?_ (kk _ _ (oGr_mk ha))
  · show (if a < T.1 then T.2.1 a else _) = (ci, x)
    rw [if_pos ha, hsa]
  · show a < T.1 + 1 + N
    omega
end OBM
/-- behind T the cells of object a, which starts there: w more -/
def oNx (T T2 : oT) (σ σ2 : oM) (a w : Nat) : Prop := T2.1 = T.1 + w ∧ (∀ x, x < a → T2.2.1 x = T.2.1 x ∧ T2.2.2 x = T.2.2 x) ∧ ∀ x, x < a → σ2 x = σ x
set_option maxRecDepth 20000 in
set_option maxHeartbeats 8000000 in
theorem c_X4_init {T : oT} {σ : oM} {aC : Nat} (hs : T.2.1 aC = (4, 0)) (hT1 : T.1 = aC + 1) : MS yX4_init cX4_init 1 none 1 12 822 21 [og aC] T σ (oPc (fun T2 σ2 => oEd T2 aC ∧ oNx T T2 σ σ2 aC 12)) := by
  have ha : aC < T.1 := by omega
  refine o_met (by decide +kernel) (Nat.le_of_ble_eq_true rfl) (fun p l ee s m args below meth c G b C hr hn => ?_)
  have C : oCx p s m args meth c G b RX4 cX4_init 1 := C
  show oW p l ee ({ frames := 1, cells := 12, slots := 822, locals := 21 } : Room) s m args below meth c G b 1 0 0 (MQ below (o_Qc G b (oPc (fun T2 σ2 => oEd T2 aC ∧ oNx T T2 σ σ2 aC 12))) args s 12 822 (fun q => b ≤ q)) T σ 0 [some (og aC)] []
  refine r_al0 (q := 1) C dX4_init_0 rfl ?_
  refine r_obj (q := 4) C (o_t1 38 rfl rfl) dX4_init_1 rfl (by decide) (Nat.le_of_ble_eq_true rfl) ?_
  refine r_al0 (q := 5) C dX4_init_4 rfl ?_
  refine r_bipush (q := 7) C dX4_init_5 (by decide) rfl ?_
  refine r_putI (q := 10) C fp_X4_9 dX4_init_7 rfl rfl (by assumption) (by omega) ?_
  have hB0 := oBm_0 (T := T) (σ := o_up σ aC 1 (-7)) (a := aC)
  refine r_al0 (q := 11) C dX4_init_10 rfl ?_
  refine r_bipush (q := 13) C dX4_init_11 (by decide) rfl ?_
  refine r_naM (q := 18) (N := 100) C dX4_init_13 rfl (by decide) rfl ⟨by decide, by decide⟩ fp_X4_15 dX4_init_15 rfl rfl hn (fun _ => rfl) (fun _ => rfl) hB0 hs ha (by decide) (fun T1 σ1 hB1 => ?_)
  refine r_al0 (q := 19) C dX4_init_18 rfl ?_
  refine r_bipush (q := 21) C dX4_init_19 (by decide) rfl ?_
  refine r_naM (q := 26) (N := 100) C dX4_init_21 rfl (by decide) rfl ⟨by decide, by decide⟩ fp_X4_19 dX4_init_23 rfl rfl hn (fun _ => rfl) (fun _ => rfl) hB1 hs ha (by decide) (fun T2 σ2 hB2 => ?_)
  refine r_al0 (q := 27) C dX4_init_26 rfl ?_
  refine r_bipush (q := 29) C dX4_init_27 (by decide) rfl ?_
  refine r_naM (q := 34) (N := 100) C dX4_init_29 rfl (by decide) rfl ⟨by decide, by decide⟩ fp_X4_22 dX4_init_31 rfl rfl hn (fun _ => rfl) (fun _ => rfl) hB2 hs ha (by decide) (fun T3 σ3 hB3 => ?_)
  refine r_al0 (q := 35) C dX4_init_34 rfl ?_
  refine r_bipush (q := 37) C dX4_init_35 (by decide) rfl ?_
  refine r_naM (q := 42) (N := 100) C dX4_init_37 rfl (by decide) rfl ⟨by decide, by decide⟩ fp_X4_25 dX4_init_39 rfl rfl hn (fun _ => rfl) (fun _ => rfl) hB3 hs ha (by decide) (fun T4 σ4 hB4 => ?_)
  refine r_al0 (q := 43) C dX4_init_42 rfl ?_
  refine r_iconst (q := 44) C dX4_init_43 rfl ?_
  refine r_bipush (q := 46) C dX4_init_44 (by decide) rfl ?_
  have hs4 := (hB4.1.2.1 aC ha).1.trans hs
  have ha4 : aC < T4.1 := by
    rw [hB4.1.1]
    omega
  refine r_mnF (q := 53) (N := 4) (M := 100) C (o_t1 39 rfl rfl) dX4_init_46 rfl (by decide) (by decide) rfl rfl ⟨by decide, by decide⟩ fp_X4_30 dX4_init_50 rfl rfl hn (fun _ => rfl) (fun _ => rfl) hs4 ha4 (fun T5 σ5 hG => ?_)
  have hs5 := (hG.2.1 aC ha4).1.trans hs4
  have ha5 : aC < T5.1 := by
    rw [hG.1]
    omega
  have hB5 := oBm_0 (T := T5) (σ := σ5) (a := aC)
  refine r_al0 (q := 54) C dX4_init_53 rfl ?_
  refine r_bipush (q := 56) C dX4_init_54 (by decide) rfl ?_
  refine r_naM (q := 61) (N := 6) C dX4_init_56 rfl (by decide) rfl ⟨by decide, by decide⟩ fp_X4_33 dX4_init_58 rfl rfl hn (fun _ => rfl) (fun _ => rfl) hB5 hs5 ha5 (by decide) (fun T6 σ6 hB6 => ?_)
  refine r_al0 (q := 62) C dX4_init_61 rfl ?_
  refine r_bipush (q := 64) C dX4_init_62 (by decide) rfl ?_
  refine r_naM (q := 69) (N := 6) C dX4_init_64 rfl (by decide) rfl ⟨by decide, by decide⟩ fp_X4_36 dX4_init_66 rfl rfl hn (fun _ => rfl) (fun _ => rfl) hB6 hs5 ha5 (by decide) (fun T7 σ7 hB7 => ?_)
  refine r_al0 (q := 70) C dX4_init_69 rfl ?_
  refine r_bipush (q := 72) C dX4_init_70 (by decide) rfl ?_
  refine r_naM (q := 77) (N := 6) C dX4_init_72 rfl (by decide) rfl ⟨by decide, by decide⟩ fp_X4_39 dX4_init_74 rfl rfl hn (fun _ => rfl) (fun _ => rfl) hB7 hs5 ha5 (by decide) (fun T8 σ8 hB8 => ?_)
  refine r_vret C hr dX4_init_77 (by decide) (by decide) ?_
  obtain ⟨⟨a1q, a2q, a3q, a4q⟩, a5q⟩ := hB4
  obtain ⟨b1q, b2q, b3q, b4q, b5q, b6q, b7q, b8q⟩ := hG
  obtain ⟨⟨d1q, d2q, d3q, d4q⟩, d5q⟩ := hB8
  have a1q : T4.1 = T.1 + 4 := a1q
  have d1q : T8.1 = T5.1 + 3 := d1q
  have s5 : ∀ x, x < T5.1 → T8.2.1 x = T5.2.1 x := fun x hx => (d2q x hx).1
  have s4 : ∀ x, x < T4.1 → T8.2.1 x = T4.2.1 x := fun x hx => (s5 x (by omega)).trans (b2q x hx).1
  have f4 : ∀ g o kd, (g ≠ 8 ∧ g ≠ 9 ∧ g ≠ 10 ∧ g ≠ 7) → T4.2.2 aC g = some (T.1 + o) ∧ T4.2.1 (T.1 + o) = kd → o < 4 → T8.2.2 aC g = some (aC + (1 + o)) ∧ T8.2.1 (aC + (1 + o)) = kd := by
    intro g o kd hg hT4 ho
    refine ⟨?_, ?_⟩
    · rw [d5q g (by simp [hg.1.symm, hg.2.1.symm, hg.2.2.1.symm]), b4q g hg.2.2.2, hT4.1]
      congr 1
      omega
    · rw [show aC + (1 + o) = T.1 + o by omega, s4 _ (by omega)]
      exact hT4.2
  have k0 := f4 3 0 (10, 100) (by decide) ⟨(a3q 0 _ rfl).2.1, (a3q 0 _ rfl).1⟩ (by decide)
  have k1 := f4 4 1 (10, 100) (by decide) ⟨(a3q 1 _ rfl).2.1, (a3q 1 _ rfl).1⟩ (by decide)
  have k2 := f4 5 2 (10, 100) (by decide) ⟨(a3q 2 _ rfl).2.1, (a3q 2 _ rfl).1⟩ (by decide)
  have k3 := f4 6 3 (10, 100) (by decide) ⟨(a3q 3 _ rfl).2.1, (a3q 3 _ rfl).1⟩ (by decide)
  have e5 : T4.1 = aC + 5 := by omega
  have e10 : T5.1 = aC + 10 := by omega
  refine ⟨rfl, ⟨(s4 aC (by omega)).trans ((a2q aC ha).1.trans hs), k0.1, k1.1, k2.1, k3.1, ?_, ?_, ?_, ?_, k0.2, k1.2, k2.2, k3.2, ?_, fun ix hi => ⟨?_, ?_⟩, ?_, ?_, ?_, by omega⟩, by omega, fun x hx => ⟨?_, ?_⟩, fun x hx => ?_⟩
  · rw [d5q 7 (by decide), b3q, e5]
  · rw [(d3q 0 _ rfl).2.1, e10]
  · rw [(d3q 1 _ rfl).2.1, e10]
  · rw [(d3q 2 _ rfl).2.1, e10]
  · rw [s5 _ (by omega), ← e5]
    exact b5q
  · rw [(d2q (aC + 5) (by omega)).2 (by omega), ← e5, (b6q ix hi).1, e5]
  · rw [s5 _ (by omega), show aC + 6 + ix = T4.1 + 1 + ix by omega]
    exact (b6q ix hi).2
  · rw [show aC + 10 = T5.1 + 0 by omega]
    exact (d3q 0 _ rfl).1
  · rw [show aC + 11 = T5.1 + 1 by omega]
    exact (d3q 1 _ rfl).1
  · rw [show aC + 12 = T5.1 + 2 by omega]
    exact (d3q 2 _ rfl).1
  · rw [s4 x (by omega)]
    exact (a2q x (by omega)).1
  · rw [(d2q x (by omega)).2 (by omega), (b2q x (by omega)).2 (by omega), (a2q x (by omega)).2 (by omega)]
  · rw [d4q x (by omega), b8q x (by omega), a4q x (by omega), o_up_ne (by omega)]
set_option maxRecDepth 20000 in
set_option maxHeartbeats 8000000 in
theorem c_X2_init {T : oT} {σ : oM} {aC : Nat} (hs : T.2.1 aC = (2, 0)) (hT1 : T.1 = aC + 1) : MS yX2_init cX2_init 1 none 1 63 480 21 [og aC] T σ (oPc (fun T2 σ2 => oTx T2 aC ∧ oNx T T2 σ σ2 aC 63 ∧ ∀ ix, σ2 aC ix = σ aC ix)) := by
  have ha : aC < T.1 := by omega
  refine o_met (by decide +kernel) (Nat.le_of_ble_eq_true rfl) (fun p l ee s m args below meth c G b C hr hn => ?_)
  have C : oCx p s m args meth c G b RX2 cX2_init 1 := C
  show oW p l ee ({ frames := 1, cells := 63, slots := 480, locals := 21 } : Room) s m args below meth c G b 1 0 0 (MQ below (o_Qc G b (oPc (fun T2 σ2 => oTx T2 aC ∧ oNx T T2 σ σ2 aC 63 ∧ ∀ ix, σ2 aC ix = σ aC ix))) args s 63 480 (fun q => b ≤ q)) T σ 0 [some (og aC)] []
  refine r_al0 (q := 1) C dX2_init_0 rfl ?_
  refine r_obj (q := 4) C (o_t2 47 rfl rfl) dX2_init_1 rfl (by decide) (Nat.le_of_ble_eq_true rfl) ?_
  have hB0 := oBm_0 (T := T) (σ := σ) (a := aC)
  refine r_al0 (q := 5) C dX2_init_4 rfl ?_
  refine r_bipush (q := 7) C dX2_init_5 (by decide) rfl ?_
  refine r_naMC (q := 12) (N := 60) C dX2_init_7 rfl (by decide) rfl ⟨by decide, by decide⟩ fp_X2_9 dX2_init_9 rfl rfl hn (fun _ => rfl) (fun _ => rfl) hB0 hs ha (by decide) (fun T1 σ1 hB1 => ?_)
  refine r_al0 (q := 13) C dX2_init_12 rfl ?_
  refine r_bipush (q := 15) C dX2_init_13 (by decide) rfl ?_
  refine r_naMC (q := 20) (N := 60) C dX2_init_15 rfl (by decide) rfl ⟨by decide, by decide⟩ fp_X2_15 dX2_init_17 rfl rfl hn (fun _ => rfl) (fun _ => rfl) hB1 hs ha (by decide) (fun T2 σ2 hB2 => ?_)
  refine r_al0 (q := 21) C dX2_init_20 rfl ?_
  refine r_bipush (q := 23) C dX2_init_21 (by decide) rfl ?_
  refine r_iconst (q := 24) C dX2_init_23 rfl ?_
  have hs4 := (hB2.1.2.1 aC ha).1.trans hs
  have ha4 : aC < T2.1 := by
    rw [hB2.1.1]
    omega
  refine r_mnF (q := 31) (N := 60) (M := 5) C (o_t2 48 rfl rfl) dX2_init_24 rfl (by decide) (by decide) rfl rfl ⟨by decide, by decide⟩ fp_X2_20 dX2_init_28 rfl rfl hn (fun _ => rfl) (fun _ => rfl) hs4 ha4 (fun T5 σ5 hG => ?_)
  refine r_vret C hr dX2_init_31 (by decide) (by decide) ?_
  obtain ⟨⟨a1q, a2q, a3q, a4q⟩, a5q⟩ := hB2
  obtain ⟨b1q, b2q, b3q, b4q, b5q, b6q, b7q, b8q⟩ := hG
  have a1q : T2.1 = T.1 + 2 := a1q
  have e3 : T2.1 = aC + 3 := by omega
  have k0 := a3q 0 _ rfl
  have k1 := a3q 1 _ rfl
  refine ⟨rfl, ⟨(b2q aC ha4).1.trans hs4, ?_, ?_, ?_, ?_, ?_, ?_, fun ix hi => ⟨?_, ?_⟩, by omega⟩, ⟨by omega, fun x hx => ⟨?_, ?_⟩, fun x hx => ?_⟩, fun ix => ?_⟩
  · rw [b4q 0 (by decide), k0.2.1]
    congr 1
  · rw [b4q 4 (by decide), k1.2.1]
    congr 1
    omega
  · rw [b3q, e3]
  · rw [(b2q (aC + 1) (by omega)).1, show aC + 1 = T.1 + 0 by omega]
    exact k0.1
  · rw [(b2q (aC + 2) (by omega)).1, show aC + 2 = T.1 + 1 by omega]
    exact k1.1
  · rw [← e3]
    exact b5q
  · rw [← e3, (b6q ix hi).1, e3]
  · rw [show aC + 4 + ix = T2.1 + 1 + ix by omega]
    exact (b6q ix hi).2
  · rw [(b2q x (by omega)).1]
    exact (a2q x (by omega)).1
  · rw [(b2q x (by omega)).2 (by omega), (a2q x (by omega)).2 (by omega)]
  · rw [b8q x (by omega), a4q x (by omega)]
  · rw [b8q aC ha4, a4q aC ha]
