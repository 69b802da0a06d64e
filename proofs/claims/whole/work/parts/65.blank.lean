/-! constructors that make arrays -/
/-- behind T the arrays L (field, kind, length) of object a, empty; below T.1 the memory says what sigma says -/
def oBl (T Tk : oT) (σ σk : oM) (a : Nat) (L : List (Nat × Nat × Nat)) : Prop := Tk.1 = T.1 + L.length ∧ (∀ x, x < T.1 → Tk.2.1 x = T.2.1 x ∧ (x ≠ a → Tk.2.2 x = T.2.2 x)) ∧ (∀ (j : Nat) (q : Nat × Nat × Nat), L[j]? = some q → Tk.2.1 (T.1 + j) = q.2 ∧ Tk.2.2 a q.1 = some (T.1 + j) ∧ ∀ i, σk (T.1 + j) i = 0) ∧ ∀ x, x < T.1 → σk x = σ x
theorem oBl_0 {T : oT} {σ : oM} {a : Nat} : oBl T T σ σ a [] := ⟨rfl, fun _ _ => ⟨rfl, fun _ => rfl⟩, fun j q h => by simp at h, fun _ _ => rfl⟩
theorem oBl_put {T Tk : oT} {σ σk : oM} {a f : Nat} {v : Int} {L : List (Nat × Nat × Nat)} (h : oBl T Tk σ σk a L) (ha : a < T.1) : oBl T Tk (o_up σ a f v) (o_up σk a f v) a L :=
  ⟨h.1, h.2.1, fun j q hq => by
    obtain ⟨g1, g2, g3⟩ := h.2.2.1 j q hq
    exact ⟨g1, g2, fun i => by rw [o_up_ne (by omega)]; exact g3 i⟩, fun x hx => by
    by_cases hc : x = a
    · subst hc
      funext i
      unfold o_up
      rw [h.2.2.2 x hx]
    · rw [o_up_ne hc, o_up_ne hc, h.2.2.2 x hx]⟩
theorem oBl_s {T Tk : oT} {σ σk : oM} {a f kd N : Nat} {L : List (Nat × Nat × Nat)} (h : oBl T Tk σ σk a L) (ha : a < T.1) (hf : ∀ q ∈ L, q.1 ≠ f) : oBl T ((o_new Tk (kd, N)).1, (o_new Tk (kd, N)).2.1, o_rup (o_new Tk (kd, N)).2.2 a f Tk.1) σ (o_new0 σk Tk.1) a (L ++ [(f, kd, N)]) := by
  obtain ⟨h1, h2, h3, h4⟩ := h
  refine ⟨?_, fun x hx => ⟨?_, fun hxa => ?_⟩, fun j q hq => ?_, fun x hx => ?_⟩
  · rw [List.length_append]
    show Tk.1 + 1 = T.1 + (L.length + 1)
    omega
  · show (if x = Tk.1 then (kd, N) else Tk.2.1 x) = T.2.1 x
    rw [if_neg (by omega)]
    exact (h2 x hx).1
  · funext i
    show (if x = a ∧ i = f then some Tk.1 else (if x = Tk.1 then fun _ => none else Tk.2.2 x) i) = T.2.2 x i
    rw [if_neg (fun q => hxa q.1), if_neg (by omega), (h2 x hx).2 hxa]
  · by_cases hj : j < L.length
    · rw [List.getElem?_append_left hj] at hq
      obtain ⟨g1, g2, g3⟩ := h3 j q hq
      refine ⟨?_, ?_, fun i => ?_⟩
      · show (if T.1 + j = Tk.1 then (kd, N) else Tk.2.1 (T.1 + j)) = q.2
        rw [if_neg (by omega)]
        exact g1
      · show (if a = a ∧ q.1 = f then some Tk.1 else (if a = Tk.1 then fun _ => none else Tk.2.2 a) q.1) = some (T.1 + j)
        rw [if_neg (fun c => hf q (List.mem_of_getElem? hq) c.2), if_neg (by omega)]
        exact g2
      · show (if T.1 + j = Tk.1 then fun _ => 0 else σk (T.1 + j)) i = 0
        rw [if_neg (by omega)]
        exact g3 i
    · rw [List.getElem?_append_right (by omega)] at hq
      have hk := (List.getElem?_eq_some_iff.mp hq).1
      rw [List.length_cons, List.length_nil] at hk
      have hj2 : j = L.length := by omega
      subst hj2
      rw [Nat.sub_self] at hq
      cases hq
      refine ⟨?_, ?_, fun i => ?_⟩
      · show (if T.1 + L.length = Tk.1 then (kd, N) else Tk.2.1 (T.1 + L.length)) = (kd, N)
        rw [if_pos (by omega)]
      · show (if a = a ∧ f = f then some Tk.1 else _) = some (T.1 + L.length)
        rw [if_pos ⟨rfl, rfl⟩, h1]
      · show (if T.1 + L.length = Tk.1 then fun _ => 0 else σk (T.1 + L.length)) i = 0
        rw [if_pos (by omega)]
  · show (if x = Tk.1 then fun _ => 0 else σk x) = σ x
    rw [if_neg (by omega)]
    exact h4 x hx
section OBK
variable {p : Program} {l : Launch} {e : Env} {R : Room} {s : State} {m : MethodId} {args : Array Value} {below : List Frame} {meth : Method} {c : Code} {G : oG} {b : Nat} {own : String} {cc : ByteArray} {nL k n pc q : Nat} {Q : State → Prop} {T T0 : oT} {σ σ0 : oM} {ls : List (Option oV)} {st : List oV}
theorem r_naI (C : oCx p s m args meth c G b own cc nL) {N idx ci f a x pc2 : Nat} {z : Int} {L : List (Nat × Nat × Nat)} (hd : decode cc pc = .ok (.newarray .int, 2)) (hp2 : pc + 2 = pc2) (hN : N ≤ 100000) (hz : z = (N : Int)) (hr : k + 1 ≤ R.cells ∧ n + N ≤ R.slots) (F : o_FP own idx ci f true) (hd2 : decode cc pc2 = .ok (.putfield idx, 3)) (hq : pc2 + 3 = q) (hi : (o_tyf ci f).isReference = true) (hm : meth.name = "<init>") (hn : ∀ d, narrow (o_tyf ci f) (.ref d) = .ref d) (hfit : ∀ d, fits (o_tyf ci f) (.ref d) = true) (hB : oBl T0 T σ0 σ a L) (hsa : T0.2.1 a = (ci, x)) (ha : a < T0.1) (hf : ∀ q ∈ L, q.1 ≠ f)
    (kk : ∀ T' σ', oBl T0 T' σ0 σ' a (L ++ [(f, 10, N)]) → oW p l e R s m args below meth c G b nL (k + 1) (n + N) Q T' σ' q ls st) : oW p l e R s m args below meth c G b nL k n Q T σ pc ls (oi z :: og a :: st) := by
  refine r_newI C hd hp2 hN hz hr ?_
  have h1 := hB.1
  have h2 := (hB.2.1 a ha).1
  refine r_putR (x := x) C F hd2 hq hi hm (hn _) (hfit _) ?_ ?_ (kk _ _ (oBl_s hB ha hf))
  · show (if a = T.1 then (10, N) else T.2.1 a) = (ci, x)
    rw [if_neg (by omega), h2, hsa]
  · show a < T.1 + 1
    omega
theorem r_naC (C : oCx p s m args meth c G b own cc nL) {N idx ci f a x pc2 : Nat} {z : Int} {L : List (Nat × Nat × Nat)} (hd : decode cc pc = .ok (.newarray .char, 2)) (hp2 : pc + 2 = pc2) (hN : N ≤ 100000) (hz : z = (N : Int)) (hr : k + 1 ≤ R.cells ∧ n + N ≤ R.slots) (F : o_FP own idx ci f true) (hd2 : decode cc pc2 = .ok (.putfield idx, 3)) (hq : pc2 + 3 = q) (hi : (o_tyf ci f).isReference = true) (hm : meth.name = "<init>") (hn : ∀ d, narrow (o_tyf ci f) (.ref d) = .ref d) (hfit : ∀ d, fits (o_tyf ci f) (.ref d) = true) (hB : oBl T0 T σ0 σ a L) (hsa : T0.2.1 a = (ci, x)) (ha : a < T0.1) (hf : ∀ q ∈ L, q.1 ≠ f)
    (kk : ∀ T' σ', oBl T0 T' σ0 σ' a (L ++ [(f, 11, N)]) → oW p l e R s m args below meth c G b nL (k + 1) (n + N) Q T' σ' q ls st) : oW p l e R s m args below meth c G b nL k n Q T σ pc ls (oi z :: og a :: st) := by
  refine r_newC C hd hp2 hN hz hr ?_
  have h1 := hB.1
  have h2 := (hB.2.1 a ha).1
  refine r_putR (x := x) C F hd2 hq hi hm (hn _) (hfit _) ?_ ?_ (kk _ _ (oBl_s hB ha hf))
  · show (if a = T.1 then (11, N) else T.2.1 a) = (ci, x)
    rw [if_neg (by omega), h2, hsa]
  · show a < T.1 + 1
    omega
end OBK
set_option maxRecDepth 20000 in
set_option maxHeartbeats 8000000 in
theorem c_X0_init {T : oT} {σ : oM} {aC : Nat} : MS yX0_init cX0_init 1 none 1 0 0 21 [og aC] T σ (oPc (fun T2 σ2 => T2 = T ∧ σ2 = σ)) := by
  refine o_met (by decide +kernel) (Nat.le_of_ble_eq_true rfl) (fun p l ee s m args below meth c G b C hr hn => ?_)
  have C : oCx p s m args meth c G b RX0 cX0_init 1 := C
  show oW p l ee ({ frames := 1, cells := 0, slots := 0, locals := 21 } : Room) s m args below meth c G b 1 0 0 (MQ below (o_Qc G b (oPc (fun T2 σ2 => T2 = T ∧ σ2 = σ))) args s 0 0 (fun q => b ≤ q)) T σ 0 [some (og aC)] []
  refine r_al0 (q := 1) C dX0_init_0 rfl ?_
  refine r_obj (q := 4) C (o_t1 237 rfl rfl) dX0_init_1 rfl (by decide) (Nat.le_of_ble_eq_true rfl) ?_
  exact r_vret C hr dX0_init_4 (by decide) (by decide) ⟨rfl, rfl, rfl⟩
set_option maxRecDepth 20000 in
set_option maxHeartbeats 8000000 in
theorem c_X7_init {T : oT} {σ : oM} {aC : Nat} : MS yX7_init cX7_init 1 none 1 0 0 21 [og aC] T σ (oPc (fun T2 σ2 => T2 = T ∧ σ2 = σ)) := by
  refine o_met (by decide +kernel) (Nat.le_of_ble_eq_true rfl) (fun p l ee s m args below meth c G b C hr hn => ?_)
  have C : oCx p s m args meth c G b RX7 cX7_init 1 := C
  show oW p l ee ({ frames := 1, cells := 0, slots := 0, locals := 21 } : Room) s m args below meth c G b 1 0 0 (MQ below (o_Qc G b (oPc (fun T2 σ2 => T2 = T ∧ σ2 = σ))) args s 0 0 (fun q => b ≤ q)) T σ 0 [some (og aC)] []
  refine r_al0 (q := 1) C dX7_init_0 rfl ?_
  refine r_obj (q := 4) C (o_t1 103 rfl rfl) dX7_init_1 rfl (by decide) (Nat.le_of_ble_eq_true rfl) ?_
  exact r_vret C hr dX7_init_4 (by decide) (by decide) ⟨rfl, rfl, rfl⟩
set_option maxRecDepth 20000 in
set_option maxHeartbeats 8000000 in
theorem c_X3_init {T : oT} {σ : oM} {aC : Nat} (hs : T.2.1 aC = (3, 0)) (ha : aC < T.1) : MS yX3_init cX3_init 1 none 1 4 792 21 [og aC] T σ (oPc (fun T2 σ2 => oBl T T2 σ σ2 aC [(3, 10, 198), (4, 10, 198), (5, 10, 198), (6, 10, 198)])) := by
  refine o_met (by decide +kernel) (Nat.le_of_ble_eq_true rfl) (fun p l ee s m args below meth c G b C hr hn => ?_)
  have C : oCx p s m args meth c G b RX3 cX3_init 1 := C
  show oW p l ee ({ frames := 1, cells := 4, slots := 792, locals := 21 } : Room) s m args below meth c G b 1 0 0 (MQ below (o_Qc G b (oPc (fun T2 σ2 => oBl T T2 σ σ2 aC [(3, 10, 198), (4, 10, 198), (5, 10, 198), (6, 10, 198)]))) args s 4 792 (fun q => b ≤ q)) T σ 0 [some (og aC)] []
  refine r_al0 (q := 1) C dX3_init_0 rfl ?_
  refine r_obj (q := 4) C (o_t1 202 rfl rfl) dX3_init_1 rfl (by decide) (Nat.le_of_ble_eq_true rfl) ?_
  have hB0 := oBl_0 (T := T) (σ := σ) (a := aC)
  refine r_al0 (q := 5) C dX3_init_4 rfl ?_
  refine r_sipush (q := 8) C dX3_init_5 (by decide) rfl ?_
  refine r_naI (q := 13) (N := 198) C dX3_init_8 rfl (by decide) rfl ⟨by decide, by decide⟩ fp_X3_11 dX3_init_10 rfl rfl hn (fun _ => rfl) (fun _ => rfl) hB0 hs ha (by decide) (fun T1 σ1 hB1 => ?_)
  refine r_al0 (q := 14) C dX3_init_13 rfl ?_
  refine r_sipush (q := 17) C dX3_init_14 (by decide) rfl ?_
  refine r_naI (q := 22) (N := 198) C dX3_init_17 rfl (by decide) rfl ⟨by decide, by decide⟩ fp_X3_15 dX3_init_19 rfl rfl hn (fun _ => rfl) (fun _ => rfl) hB1 hs ha (by decide) (fun T2 σ2 hB2 => ?_)
  refine r_al0 (q := 23) C dX3_init_22 rfl ?_
  refine r_sipush (q := 26) C dX3_init_23 (by decide) rfl ?_
  refine r_naI (q := 31) (N := 198) C dX3_init_26 rfl (by decide) rfl ⟨by decide, by decide⟩ fp_X3_18 dX3_init_28 rfl rfl hn (fun _ => rfl) (fun _ => rfl) hB2 hs ha (by decide) (fun T3 σ3 hB3 => ?_)
  refine r_al0 (q := 32) C dX3_init_31 rfl ?_
  refine r_sipush (q := 35) C dX3_init_32 (by decide) rfl ?_
  refine r_naI (q := 40) (N := 198) C dX3_init_35 rfl (by decide) rfl ⟨by decide, by decide⟩ fp_X3_21 dX3_init_37 rfl rfl hn (fun _ => rfl) (fun _ => rfl) hB3 hs ha (by decide) (fun T4 σ4 hB4 => ?_)
  exact r_vret C hr dX3_init_40 (by decide) (by decide) ⟨rfl, hB4⟩
set_option maxRecDepth 20000 in
set_option maxHeartbeats 8000000 in
theorem c_X1_init {T : oT} {σ : oM} {aC : Nat} (hs : T.2.1 aC = (1, 0)) (ha : aC < T.1) : MS yX1_init cX1_init 1 none 1 2 16 21 [og aC] T σ (oPc (fun T2 σ2 => oBl T T2 σ σ2 aC [(2, 10, 8), (3, 10, 8)])) := by
  refine o_met (by decide +kernel) (Nat.le_of_ble_eq_true rfl) (fun p l ee s m args below meth c G b C hr hn => ?_)
  have C : oCx p s m args meth c G b RX1 cX1_init 1 := C
  show oW p l ee ({ frames := 1, cells := 2, slots := 16, locals := 21 } : Room) s m args below meth c G b 1 0 0 (MQ below (o_Qc G b (oPc (fun T2 σ2 => oBl T T2 σ σ2 aC [(2, 10, 8), (3, 10, 8)]))) args s 2 16 (fun q => b ≤ q)) T σ 0 [some (og aC)] []
  refine r_al0 (q := 1) C dX1_init_0 rfl ?_
  refine r_obj (q := 4) C (o_t2 25 rfl rfl) dX1_init_1 rfl (by decide) (Nat.le_of_ble_eq_true rfl) ?_
  have hB0 := oBl_0 (T := T) (σ := σ) (a := aC)
  refine r_al0 (q := 5) C dX1_init_4 rfl ?_
  refine r_bipush (q := 7) C dX1_init_5 (by decide) rfl ?_
  refine r_naI (q := 12) (N := 8) C dX1_init_7 rfl (by decide) rfl ⟨by decide, by decide⟩ fp_X1_9 dX1_init_9 rfl rfl hn (fun _ => rfl) (fun _ => rfl) hB0 hs ha (by decide) (fun T1 σ1 hB1 => ?_)
  refine r_al0 (q := 13) C dX1_init_12 rfl ?_
  refine r_bipush (q := 15) C dX1_init_13 (by decide) rfl ?_
  refine r_naI (q := 20) (N := 8) C dX1_init_15 rfl (by decide) rfl ⟨by decide, by decide⟩ fp_X1_15 dX1_init_17 rfl rfl hn (fun _ => rfl) (fun _ => rfl) hB1 hs ha (by decide) (fun T2 σ2 hB2 => ?_)
  exact r_vret C hr dX1_init_20 (by decide) (by decide) ⟨rfl, hB2⟩
