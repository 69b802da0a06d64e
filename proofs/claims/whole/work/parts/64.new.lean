/-! new objects and arrays -/
theorem ty_def : ∀ ci, ci < 10 → ∀ j, j < o_nf ci → defaultValue (o_tyf ci j) = if (o_tyf ci j).isReference = true then Value.null else Value.int 0 := by decide +kernel
def o_NW (own : String) (idx ci : Nat) : Prop := ∃ (Cn : String) (Tt : u_T) (N : Nat), o_CF ci Cn Tt N ∧ Cond.classLink own idx Cn ∈ oALL ∧ Cond.instantiable Cn N ∈ oALL ∧ Cond.initialized Cn ∈ oALL
section ONW
variable {p : Program} {l : Launch} {e : Env} {R : Room} {s : State} {m : MethodId} {args : Array Value} {below : List Frame} {meth : Method} {c : Code} {G : oG} {b : Nat} {own : String} {cc : ByteArray} {nL k n pc q : Nat} {Q : State → Prop} {T : oT} {σ : oM} {ls : List (Option oV)} {st : List oV}
theorem r_new (C : oCx p s m args meth c G b own cc nL) {idx ci N0 : Nat} (F : o_NW own idx ci) (hN0 : o_nf ci = N0) (hd : decode cc pc = .ok (.new idx, 3)) (hq : pc + 3 = q) (hr : k + 1 ≤ R.cells ∧ n + N0 ≤ R.slots)
    (kk : oW p l e R s m args below meth c G b nL (k + 1) (n + N0) Q (o_new T (ci, 0)) (o_new0 σ T.1) q ls (og T.1 :: st)) : oW p l e R s m args below meth c G b nL k n Q T σ pc ls st := by
  intro H locs la hW hS hl
  subst hq
  obtain ⟨Cn, Tt, N, ⟨hc, hin, hN, hp, hnm, h10⟩, w1, w2, w3⟩ := F
  have hts := C.2.2.2.2.1
  have hKn := C.2.2.2.2.2.1.1.1 ci _ hc
  have hNN : N = N0 := hN.trans hN0
  subst hNN
  refine W.newcK C.1 C.2.1 C.2.2.2.1 (hts _ w1) (hts _ w2) (hts _ w3) rfl hd hr.1 hr.2 hKn.2.1 hW.1 (fun H1 kC hkC f1 f2 f3 => ?_)
  have hat : va_at G.1.1 o_cl (b + T.1, o_e G b (ci, 0) (fun _ => none) (fun _ => 0)) H1 := by
    unfold o_e
    rw [if_pos h10]
    refine ⟨_, hc, (u_born (o_tyf ci) hts hin hKn hkC f1 hp).to (fun j hj => ?_)⟩
    rw [o_fs_V (by rw [← hN]; exact hj)]
    unfold o_fv
    rw [ty_def ci h10 j (by rw [← hN]; exact hj)]
    rfl
  have hW1 : o_W G b (o_new T (ci, 0)) (o_new0 σ T.1) H1 := o_W_new hW (by rw [f2, hW.1]) (fun x hx => f3 x (by rw [← hW.1]; exact hx)) hat
  exact kk H1 locs la hW1 ⟨Nat.le_trans hS.1 (by rw [f2, hW.1]; omega), fun x h1 h2 => (f3 x (by have := hS.1; rw [hW.1] at this; omega)).trans (hS.2.1 x h1 h2), hS.2.2⟩ hl
theorem r_obj (C : oCx p s m args meth c G b own cc nL) {idx a : Nat} (w1 : Cond.methodLink own idx Lib.objectInit ∈ oALL) (hd : decode cc pc = .ok (.invokespecial idx, 3)) (hq : pc + 3 = q) (hf : 1 ≤ R.frames) (hlo : st.length + 12 ≤ R.locals) (kk : oW p l e R s m args below meth c G b nL k n Q T σ q ls st) : oW p l e R s m args below meth c G b nL k n Q T σ pc ls (og a :: st) := by
  intro H locs la hW hS hl
  subst hq
  have hts := C.2.2.2.2.1
  refine W.objInit C.1 C.2.1 C.2.2.2.1 (hts _ w1) (hts _ (o_t1 24 rfl rfl)) (hts _ (o_t1 25 rfl rfl)) rfl (by rw [C.2.2.1]; exact hl.1) rfl hd hf (by rw [oc_sum]; show 2 * 0 + st.length + 12 ≤ R.locals; omega) (kk H locs la hW hS hl)
theorem r_newC (C : oCx p s m args meth c G b own cc nL) {N : Nat} {z : Int} (hd : decode cc pc = .ok (.newarray .char, 2)) (hq : pc + 2 = q) (hN : N ≤ 100000) (hz : z = (N : Int)) (hr : k + 1 ≤ R.cells ∧ n + N ≤ R.slots)
    (kk : oW p l e R s m args below meth c G b nL (k + 1) (n + N) Q (o_new T (11, N)) (o_new0 σ T.1) q ls (og T.1 :: st)) : oW p l e R s m args below meth c G b nL k n Q T σ pc ls (oi z :: st) := by
  intro H locs la hW hS hl
  subst hq
  subst hz
  have hKa := C.2.2.2.2.2.1.1.2 1 (G.1.2 11, .char) rfl
  refine va_newaK (atype := .char) C.1 C.2.1 (C.2.2.2.2.1 _ (o_t2 72 rfl rfl)) rfl hd rfl ?_ (o_clamp (by omega)) (show N * 2 ≤ 536870912 by omega) hr.1 hr.2 hW.1 (fun H1 cA f1 f2 f3 f4 f5 => ?_)
  · rw [o_lit0.symm, o_ltI ⟨by omega, by omega⟩ ⟨by omega, by omega⟩]
    omega
  · have hcA : cA = G.1.2 11 := Option.some.inj (f5.symm.trans hKa.2)
    have hW1 : o_W G b (o_new T (11, N)) (o_new0 σ T.1) H1 := by
      refine o_W_new hW (by rw [f2, hW.1]) (fun x hx => f3 x (by rw [← hW.1]; exact hx)) ?_
      show H1[b + T.1]? = _
      rw [f1, hcA]
      rfl
    exact kk H1 locs la hW1 ⟨Nat.le_trans hS.1 (by rw [f2, hW.1]; omega), fun x h1 h2 => (f3 x (by have := hS.1; rw [hW.1] at this; omega)).trans (hS.2.1 x h1 h2), hS.2.2⟩ hl
theorem r_anew (C : oCx p s m args meth c G b own cc nL) {idx kd N : Nat} {Cn : String} {z : Int} (hk12 : 12 ≤ kd) (ht : (o_tys G)[kd - 10]? = some (G.1.2 kd, .object Cn)) (w1 : Cond.classLink own idx Cn ∈ oALL) (hAO : va_AO Cn s) (hd : decode cc pc = .ok (.anewarray idx, 3)) (hq : pc + 3 = q) (hN : N ≤ 100000) (hz : z = (N : Int)) (hr : k + 1 ≤ R.cells ∧ n + N ≤ R.slots)
    (kk : oW p l e R s m args below meth c G b nL (k + 1) (n + N) Q (o_new T (kd, N)) (o_new0 σ T.1) q ls (og T.1 :: st)) : oW p l e R s m args below meth c G b nL k n Q T σ pc ls (oi z :: st) := by
  intro H locs la hW hS hl
  subst hq
  subst hz
  have hcl : (Int32.ofInt (N : Int)).toNatClampNeg = N := o_clamp (by omega)
  refine W.anew C.1 C.2.1 C.2.2.2.1 (C.2.2.2.2.1 _ w1) (va_AO.use hAO) rfl hd rfl ?_ (by rw [hcl]; omega) hr.1 (by rw [hcl]; exact hr.2) (fun cA kA comp f1 f2 f3 f4 => ?_)
  · rw [o_lit0.symm, o_ltI ⟨by omega, by omega⟩ ⟨by omega, by omega⟩]
    omega
  · rw [hcl]
    obtain ⟨-, kA2, comp2, -, -, -, g5⟩ := C.2.2.2.2.2.1.1.2 (kd - 10) _ ht
    have hcA : cA = G.1.2 kd := Option.some.inj (f1.symm.trans g5)
    generalize hH1 : H.push ({ cls := cA, slots := Array.replicate N .null, vm := .none } : Cell) = H1
    have z1 : H1.size = H.size + 1 := by rw [← hH1, Array.size_push]
    have e1 : H1[H.size]? = some (arrV cA N (fun _ => .null)) := by rw [← hH1, Array.getElem?_push_size, ← arrV_new]
    have o1 : ∀ q : Nat, q < H.size → H1[q]? = H[q]? := fun q hq => by rw [← hH1, Array.getElem?_push, if_neg (Nat.ne_of_lt hq)]
    have hW1 : o_W G b (o_new T (kd, N)) (o_new0 σ T.1) H1 := by
      refine o_W_new hW z1 o1 ?_
      unfold o_e
      rw [if_neg (show ¬ (kd, N).1 < 10 by show ¬ kd < 10; omega), if_neg (show ¬ (kd, N).1 < 12 by show ¬ kd < 12; omega)]
      show H1[b + T.1]? = _
      rw [← hW.1, e1, hcA]
      rfl
    rw [hW.1]
    exact kk H1 locs la hW1 ⟨Nat.le_trans hS.1 (by rw [z1]; omega), fun x h1 h2 => (o1 x (Nat.lt_of_lt_of_le h1 hS.1)).trans (hS.2.1 x h1 h2), hS.2.2⟩ hl
theorem r_aast (C : oCx p s m args meth c G b own cc nL) {a v kd len ci x : Nat} {z : Int} {Cn : String} (j : Nat) (hk12 : 12 ≤ kd) (ht : (o_tys G)[kd - 10]? = some (G.1.2 kd, .object Cn)) (hcc : (o_cl[ci]?).map (fun r => r.1) = some Cn) (h10 : ci < 10) (hd : decode cc pc = .ok (.aastore, 1)) (hq : pc + 1 = q) (hs : T.2.1 a = (kd, len)) (ha : a < T.1) (hsv : T.2.1 v = (ci, x)) (hv : v < T.1) (hz : z = (j : Int)) (hj : j < len) (hlen : len ≤ 1000000)
    (kk : oW p l e R s m args below meth c G b nL k n Q (T.1, T.2.1, o_rup T.2.2 a j v) σ q ls st) : oW p l e R s m args below meth c G b nL k n Q T σ pc ls (og v :: oi z :: og a :: st) := by
  intro H locs la hW hS hl
  subst hq
  subst hz
  obtain ⟨r, hc, cellV, g1, g2, g3, -⟩ := o_obj hW hv hsv h10
  have hrC : r.1 = Cn := by
    rw [hc] at hcc
    exact Option.some.inj hcc
  have hcls := (C.2.2.2.2.2.1.1.1 ci r hc).2
  obtain ⟨-, kA, comp, k1x, k2x, k3x, -⟩ := C.2.2.2.2.2.1.1.2 (kd - 10) _ ht
  have hcomp : comp = G.1.1.1 ci := by
    have h1 := hcls.1
    rw [hrC] at h1
    exact Option.some.inj (k3x.symm.trans h1)
  subst hcomp
  obtain ⟨kC, hkC, -⟩ := hcls.2
  have har := o_arrq hW ha hs (by omega) (by omega)
  have hjc : (Int32.ofInt (j : Int)).toNatClampNeg = j := o_clamp (by omega)
  refine W.aast C.1 C.2.1 har (fun q h => by cases h) (fun h => by cases h) k1x k2x rfl hkC ⟨?_, by show _ < (arrV _ _ _).slots.size; rw [arrV_size, hjc]; exact hj⟩ g1 (fun q h => by rw [g3] at h; cases h) (by rw [g2]; exact hkC) (by rw [g2]; exact va_assign hcls) rfl rfl hd (fun H1 f1 z1 oq => ?_)
  · rw [o_lit0.symm, o_ltI ⟨by omega, by omega⟩ ⟨by omega, by omega⟩]
    omega
  · have hW1 : o_W G b (T.1, T.2.1, o_rup T.2.2 a j v) σ H1 := by
      refine o_W_ur hW ha z1 oq (fun y hy => by funext i; unfold o_rup; rw [if_neg (fun h => hy h.1)]) ?_
      rw [hs]
      unfold o_e
      rw [if_neg (show ¬ (kd, len).1 < 10 by show ¬ kd < 10; omega), if_neg (show ¬ (kd, len).1 < 12 by show ¬ kd < 12; omega)]
      show H1[b + a]? = some (vp_cell _ _)
      rw [f1, vp_cell_q, vp_cell_q, arrV_store, hjc]
      congr 2
      funext i
      by_cases hi : i = j
      · subst hi
        simp [updV, o_rup, va_rf]
      · simp [updV, o_rup, hi]
    exact kk H1 _ la hW1 ⟨by rw [z1]; exact hS.1, fun y h1 h2 => (oq y (fun hya => h2 (by rw [hya]; exact Nat.le_add_right b a))).trans (hS.2.1 y h1 h2), fun y hy => by
      rcases List.mem_append.mp hy with h | h
      · exact hS.2.2 y h
      · rw [List.mem_singleton.mp h]
        exact Nat.le_add_right b a⟩ hl
end ONW
