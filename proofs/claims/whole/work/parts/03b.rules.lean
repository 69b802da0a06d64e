/-! MY OWN LAYER, 2: contracts' entry, returns, plain rows -/
theorem lv_args_mem (b : Nat) : ∀ {As : List oV} {i k : Nat} {v : oV}, As[k]? = some v → (i + k, oc b v) ∈ lv_args i (As.map (oc b))
  | [], _, _, _, h => by simp at h
  | w :: t, i, 0, v, h => by
    have e : w = v := by simpa using h
    subst e
    exact List.mem_cons_self
  | w :: t, i, k + 1, v, h => by
    have h2 : t[k]? = some v := by simpa using h
    have h3 := lv_args_mem b (i := i + 1) h2
    rw [show i + 1 + k = i + (k + 1) by omega] at h3
    have hc : ¬ (oc b w).category = 2 := by rw [oc_cat]; decide
    show _ ∈ (i, oc b w) :: lv_args (if (oc b w).category = 2 then i + 2 else i + 1) (t.map (oc b))
    rw [if_neg hc]
    exact List.mem_cons_of_mem _ h3
theorem o_entry (b : Nat) (As : List oV) {nL : Nat} (h : As.length ≤ nL) : lv_has ((lg_sl (As.map (oc b)) ++ List.replicate (nL - (lg_sl (As.map (oc b))).length) Slot.unset).toArray) nL (o_lv b 0 (o_args As nL)) := by
  have hl : (lg_sl (As.map (oc b))).length ≤ nL := by rw [o_sl]; simpa using h
  have h1 := lv_entry (As.map (oc b)) (n := nL) hl
  refine ⟨h1.1, h1.2.1, fun q hq => h1.2.2 q ?_⟩
  obtain ⟨k, v, h2, rfl⟩ := o_lv_of hq
  refine lv_args_mem b ?_
  unfold o_args at h2
  rcases Nat.lt_or_ge k As.length with hk | hk
  · rw [List.getElem?_append_left (by simpa using hk)] at h2
    simpa using h2
  · rw [List.getElem?_append_right (by simpa using hk)] at h2
    rw [List.getElem?_replicate] at h2
    split at h2 <;> simp at h2
theorem o_met {y : MethodName} {cc : ByteArray} {nL : Nat} {ret : Option FieldType} {fr mc ms lc : Nat} {As : List oV} {T : oT} {σ : oM} {Po : Option oV → oT → oM → Prop} (hy : plainName y.cls = true) (hn : As.length ≤ nL)
    (body : ∀ (p : Program) (l : Launch) (e : Env) (s : State) (m : MethodId) (args : Array Value) (below : List Frame) (meth : Method) (c : Code) (G : oG) (b : Nat), oCx p s m args meth c G b y.cls cc nL → meth.sig.returnType = ret → meth.name = y.name →
      oW p l e ({ frames := fr, cells := mc, slots := ms, locals := lc } : Room) s m args below meth c G b nL 0 0 (MQ below (o_Qc G b Po) args s mc ms (fun q => b ≤ q)) T σ 0 (o_args As nL) []) : MS y cc nL ret fr mc ms lc As T σ Po := by
  intro l G b
  refine Met.ofW (cc := cc) (maxL := nL) (ret := ret) hy rfl ?_
  intro p e s m args below meth c s₁ B hml hv
  obtain ⟨rfl, hK, hW⟩ := hv
  have hts := atoms_spec (ws := o_ws y cc nL ret) B.pre
  have hC : oCx p s m _ meth c G b y.cls cc nL := ⟨B.exec, B.bytes, hml, findClass_of_methodNamed B.named, fun w h => hts w (List.mem_cons_of_mem _ h), hK, o_W.le hW, B.notSynchronized⟩
  have h := body p l e s m _ below meth c G b hC B.returns (name_of_methodNamed B.named B.method).1 s.heap [] _ hW va_S.rf (o_entry b As hn)
  rw [lg_entry_eq]
  exact h
section OR
variable {p : Program} {l : Launch} {e : Env} {R : Room} {s : State} {m : MethodId} {args : Array Value} {below : List Frame} {meth : Method} {c : Code} {G : oG} {b : Nat} {own : String} {cc : ByteArray} {nL k n pc q : Nat} {Q : State → Prop} {T : oT} {σ : oM} {ls : List (Option oV)} {st : List oV}
abbrev o_r (x : Int) : Prop := -2147483648 ≤ x ∧ x < 2147483648
theorem o_toInt {x : Int} (h : o_r x) : (Int32.ofInt x).toInt = x := Int32.toInt_ofInt_of_le (by have := h.1; omega) (by have := h.2; omega)
theorem o_inj {x y : Int} (hx : o_r x) (hy : o_r y) (h : Int32.ofInt x = Int32.ofInt y) : x = y := by rw [← o_toInt hx, ← o_toInt hy, h]
theorem o_ltI {x y : Int} (hx : o_r x) (hy : o_r y) : Int32.ofInt x < Int32.ofInt y ↔ x < y := by rw [Int32.lt_iff_toInt_lt, o_toInt hx, o_toInt hy]
theorem o_leI {x y : Int} (hx : o_r x) (hy : o_r y) : Int32.ofInt x ≤ Int32.ofInt y ↔ x ≤ y := by rw [Int32.le_iff_toInt_le, o_toInt hx, o_toInt hy]
theorem o_lit0 : Int32.ofInt 0 = 0 := rfl
theorem o_clamp {j : Nat} (h : j < 2147483648) : (Int32.ofInt (j : Int)).toNatClampNeg = j := by
  rw [Int32.ofInt_eq_ofNat]
  exact Int32.toNatClampNeg_ofNat_of_lt (by omega)
theorem o_vpin {j len : Nat} (h : j < len) (hl : len ≤ 2147483647) : vp_in (Int32.ofInt (j : Int)) len := by
  rw [Int32.ofInt_eq_ofNat]
  exact vp_in_nI h (by omega)
theorem r_widen {k2 n2 : Nat} (h1 : k ≤ k2) (h2 : n ≤ n2) (kk : oW p l e R s m args below meth c G b nL k2 n2 Q T σ pc ls st) : oW p l e R s m args below meth c G b nL k n Q T σ pc ls st :=
  fun H locs la hW hS hl => W.widen h1 h2 (kk H locs la hW hS hl)
/-! ends -/
theorem r_iret {Po : Option oV → oT → oM → Prop} {mc ms : Nat} {z : Int} (C : oCx p s m args meth c G b own cc nL) (hr : meth.sig.returnType = some .int) (hd : decode cc pc = .ok (.ireturn, 1)) (h1 : k ≤ mc) (h2 : n ≤ ms) (hp : Po (some (oi z)) T σ) : oW p l e R s m args below meth c G b nL k n (MQ below (o_Qc G b Po) args s mc ms (fun q => b ≤ q)) T σ pc ls [oi z] := by
  intro H locs la hW hS hl
  refine W.widen h1 h2 ?_
  exact W.iret C.1 C.2.1 hr (fun t ht _ => ⟨⟨_, T, σ, rfl, hp, by rw [ht]; exact hW⟩, hS.F ht⟩) hS.2.2 hd C.2.2.2.2.2.2.2
theorem r_zret {Po : Option oV → oT → oM → Prop} {mc ms : Nat} {z : Int} (C : oCx p s m args meth c G b own cc nL) (hr : meth.sig.returnType = some .boolean) (hd : decode cc pc = .ok (.ireturn, 1)) (h1 : k ≤ mc) (h2 : n ≤ ms) (hz : z = 0 ∨ z = 1) (hp : Po (some (oi z)) T σ) : oW p l e R s m args below meth c G b nL k n (MQ below (o_Qc G b Po) args s mc ms (fun q => b ≤ q)) T σ pc ls [oi z] := by
  intro H locs la hW hS hl
  refine W.widen h1 h2 ?_
  refine W.zret C.1 C.2.1 hr ?_ (fun t ht _ => ⟨⟨some (oi z), T, σ, rfl, hp, by rw [ht]; exact hW⟩, hS.F ht⟩) hS.2.2 hd C.2.2.2.2.2.2.2
  rcases hz with rfl | rfl <;> decide
theorem r_vret {Po : Option oV → oT → oM → Prop} {mc ms : Nat} (C : oCx p s m args meth c G b own cc nL) (hr : meth.sig.returnType = none) (hd : decode cc pc = .ok (.return_, 1)) (h1 : k ≤ mc) (h2 : n ≤ ms) (hp : Po none T σ) : oW p l e R s m args below meth c G b nL k n (MQ below (o_Qc G b Po) args s mc ms (fun q => b ≤ q)) T σ pc ls [] := by
  intro H locs la hW hS hl
  refine W.widen h1 h2 ?_
  exact W.vret C.1 C.2.1 hr (fun t ht _ => ⟨⟨_, T, σ, rfl, hp, by rw [ht]; exact hW⟩, hS.F ht⟩) hS.2.2 hd C.2.2.2.2.2.2.2
theorem r_fret {Po : Option oV → oT → oM → Prop} {mc ms : Nat} {z : UInt32} (C : oCx p s m args meth c G b own cc nL) (hr : meth.sig.returnType = some .float) (hd : decode cc pc = .ok (.freturn, 1)) (h1 : k ≤ mc) (h2 : n ≤ ms) (hp : Po (some (ofl z)) T σ) : oW p l e R s m args below meth c G b nL k n (MQ below (o_Qc G b Po) args s mc ms (fun q => b ≤ q)) T σ pc ls [ofl z] := by
  intro H locs la hW hS hl
  refine W.widen h1 h2 ?_
  exact W.fret C.1 C.2.1 hr (fun t ht _ => ⟨⟨some (ofl z), T, σ, rfl, hp, by rw [ht]; exact hW⟩, hS.F ht⟩) hS.2.2 hd C.2.2.2.2.2.2.2
theorem r_aret {Po : Option oV → oT → oM → Prop} {mc ms : Nat} {x : Nat} {rn : String} (C : oCx p s m args meth c G b own cc nL) (hr : meth.sig.returnType = some (.object rn)) (hd : decode cc pc = .ok (.areturn, 1)) (h1 : k ≤ mc) (h2 : n ≤ ms) (hp : Po (some (og x)) T σ) : oW p l e R s m args below meth c G b nL k n (MQ below (o_Qc G b Po) args s mc ms (fun q => b ≤ q)) T σ pc ls [og x] := by
  intro H locs la hW hS hl
  refine W.widen h1 h2 ?_
  exact W.aret C.1 C.2.1 hr (Or.inl ⟨_, rfl⟩) (Or.inr ⟨_, rfl⟩) (fun t ht _ => ⟨⟨some (og x), T, σ, rfl, hp, by rw [ht]; exact hW⟩, hS.F ht⟩) hS.2.2 hd C.2.2.2.2.2.2.2
theorem r_areta {Po : Option oV → oT → oM → Prop} {mc ms : Nat} {x : Nat} {rn : String} (C : oCx p s m args meth c G b own cc nL) (hr : meth.sig.returnType = some (.object rn)) (hd : decode cc pc = .ok (.areturn, 1)) (h1 : k ≤ mc) (h2 : n ≤ ms) (hp : Po (some (oa x)) T σ) : oW p l e R s m args below meth c G b nL k n (MQ below (o_Qc G b Po) args s mc ms (fun q => b ≤ q)) T σ pc ls [oa x] := by
  intro H locs la hW hS hl
  refine W.widen h1 h2 ?_
  exact W.aret C.1 C.2.1 hr (Or.inl ⟨_, rfl⟩) (Or.inr ⟨_, rfl⟩) (fun t ht _ => ⟨⟨some (oa x), T, σ, rfl, hp, by rw [ht]; exact hW⟩, hS.F ht⟩) hS.2.2 hd C.2.2.2.2.2.2.2
/-! constants, stack, arithmetic -/
theorem r_iconst (C : oCx p s m args meth c G b own cc nL) {z : Int} (hd : decode cc pc = .ok (.iconst z, 1)) (hq : pc + 1 = q) (kk : oW p l e R s m args below meth c G b nL k n Q T σ q ls (oi z :: st)) : oW p l e R s m args below meth c G b nL k n Q T σ pc ls st := by
  intro H locs la hW hS hl
  subst hq
  exact lv_iconst C.1 C.2.1 hd rfl (kk H locs la hW hS hl)
theorem r_bipush (C : oCx p s m args meth c G b own cc nL) {z : Int} (hd : decode cc pc = .ok (.bipush z, 2)) (hz : (Int8.ofInt z).toInt32 = Int32.ofInt z) (hq : pc + 2 = q) (kk : oW p l e R s m args below meth c G b nL k n Q T σ q ls (oi z :: st)) : oW p l e R s m args below meth c G b nL k n Q T σ pc ls st := by
  intro H locs la hW hS hl
  subst hq
  exact lv_bipush C.1 C.2.1 hd hz (kk H locs la hW hS hl)
theorem r_sipush (C : oCx p s m args meth c G b own cc nL) {z : Int} (hd : decode cc pc = .ok (.sipush z, 3)) (hz : (Int16.ofInt z).toInt32 = Int32.ofInt z) (hq : pc + 3 = q) (kk : oW p l e R s m args below meth c G b nL k n Q T σ q ls (oi z :: st)) : oW p l e R s m args below meth c G b nL k n Q T σ pc ls st := by
  intro H locs la hW hS hl
  subst hq
  exact lv_sipush C.1 C.2.1 hd hz (kk H locs la hW hS hl)
theorem r_ldci (C : oCx p s m args meth c G b own cc nL) {z : Int} {idx : Nat} (hw : Cond.constant own idx (Int32.ofInt z) ∈ oALL) (hd : decode cc pc = .ok (.ldc idx, 2)) (hq : pc + 2 = q) (kk : oW p l e R s m args below meth c G b nL k n Q T σ q ls (oi z :: st)) : oW p l e R s m args below meth c G b nL k n Q T σ pc ls st := by
  intro H locs la hW hS hl
  subst hq
  exact lv_ldc C.1 C.2.1 C.2.2.2.1 (C.2.2.2.2.1 _ hw) hd (kk H locs la hW hS hl)
theorem r_ldcf (C : oCx p s m args meth c G b own cc nL) {z : UInt32} {idx : Nat} (hw : Cond.constantFloat own idx z ∈ oALL) (hd : decode cc pc = .ok (.ldc idx, 2)) (hq : pc + 2 = q) (kk : oW p l e R s m args below meth c G b nL k n Q T σ q ls (ofl z :: st)) : oW p l e R s m args below meth c G b nL k n Q T σ pc ls st := by
  intro H locs la hW hS hl
  subst hq
  exact lv_ldcf C.1 C.2.1 C.2.2.2.1 (C.2.2.2.2.1 _ hw) hd (kk H locs la hW hS hl)
theorem r_dup (C : oCx p s m args meth c G b own cc nL) {v : oV} (hd : decode cc pc = .ok (.dup, 1)) (hq : pc + 1 = q) (kk : oW p l e R s m args below meth c G b nL k n Q T σ q ls (v :: v :: st)) : oW p l e R s m args below meth c G b nL k n Q T σ pc ls (v :: st) := by
  intro H locs la hW hS hl
  subst hq
  exact lv_dup C.1 C.2.1 hd (oc_cat b v) (kk H locs la hW hS hl)
theorem r_dup2 (C : oCx p s m args meth c G b own cc nL) {v w : oV} (hd : decode cc pc = .ok (.dup2, 1)) (hq : pc + 1 = q) (kk : oW p l e R s m args below meth c G b nL k n Q T σ q ls (v :: w :: v :: w :: st)) : oW p l e R s m args below meth c G b nL k n Q T σ pc ls (v :: w :: st) := by
  intro H locs la hW hS hl
  subst hq
  exact lv_dup2_11 C.1 C.2.1 hd (oc_cat b v) (oc_cat b w) (kk H locs la hW hS hl)
theorem r_pop (C : oCx p s m args meth c G b own cc nL) {v : oV} (hd : decode cc pc = .ok (.pop, 1)) (hq : pc + 1 = q) (kk : oW p l e R s m args below meth c G b nL k n Q T σ q ls st) : oW p l e R s m args below meth c G b nL k n Q T σ pc ls (v :: st) := by
  intro H locs la hW hS hl
  subst hq
  exact lv_pop C.1 C.2.1 hd (oc_cat b v) (kk H locs la hW hS hl)
theorem r_iadd (C : oCx p s m args meth c G b own cc nL) {x y : Int} (hd : decode cc pc = .ok (.iadd, 1)) (hq : pc + 1 = q) (kk : oW p l e R s m args below meth c G b nL k n Q T σ q ls (oi (x + y) :: st)) : oW p l e R s m args below meth c G b nL k n Q T σ pc ls (oi y :: oi x :: st) := by
  intro H locs la hW hS hl
  subst hq
  refine lv_iadd C.1 C.2.1 hd ?_
  rw [← Int32.ofInt_add]
  exact kk H locs la hW hS hl
theorem r_isub (C : oCx p s m args meth c G b own cc nL) {x y : Int} (hd : decode cc pc = .ok (.isub, 1)) (hq : pc + 1 = q) (kk : oW p l e R s m args below meth c G b nL k n Q T σ q ls (oi (x - y) :: st)) : oW p l e R s m args below meth c G b nL k n Q T σ pc ls (oi y :: oi x :: st) := by
  intro H locs la hW hS hl
  subst hq
  refine lv_isub C.1 C.2.1 hd ?_
  rw [← Int32.ofInt_sub]
  exact kk H locs la hW hS hl
theorem r_imul (C : oCx p s m args meth c G b own cc nL) {x y : Int} (hd : decode cc pc = .ok (.imul, 1)) (hq : pc + 1 = q) (kk : oW p l e R s m args below meth c G b nL k n Q T σ q ls (oi (x * y) :: st)) : oW p l e R s m args below meth c G b nL k n Q T σ pc ls (oi y :: oi x :: st) := by
  intro H locs la hW hS hl
  subst hq
  refine lv_imul C.1 C.2.1 hd ?_
  rw [← Int32.ofInt_mul]
  exact kk H locs la hW hS hl
/-- division and remainder of what is not negative by what is positive -/
theorem r_idiv (C : oCx p s m args meth c G b own cc nL) {x y z : Int} (hx : 0 ≤ x ∧ x < 2147483648) (hy : 0 < y ∧ y < 2147483648) (hz : x / y = z) (hd : decode cc pc = .ok (.idiv, 1)) (hq : pc + 1 = q) (kk : oW p l e R s m args below meth c G b nL k n Q T σ q ls (oi z :: st)) : oW p l e R s m args below meth c G b nL k n Q T σ pc ls (oi y :: oi x :: st) := by
  intro H locs la hW hS hl
  subst hq
  have hne : ¬ Int32.ofInt y = 0 := fun h => by have := o_inj (x := y) (y := 0) ⟨by omega, by omega⟩ ⟨by omega, by omega⟩ h; omega
  refine lv_idiv C.1 C.2.1 hd hne ?_
  have e1 : Int32.ofInt x / Int32.ofInt y = Int32.ofInt z := by
    apply Int32.toInt.inj
    have hne1 : Int32.ofInt y ≠ -1 := fun h => by have := o_inj (x := y) (y := -1) ⟨by omega, by omega⟩ ⟨by omega, by omega⟩ (h.trans (show (-1 : Int32) = Int32.ofInt (-1) by decide)); omega
    have hb1 : 0 ≤ x / y := Int.ediv_nonneg hx.1 (by omega)
    have hb2 : x / y ≤ x := Int.ediv_le_self y hx.1
    rw [Int32.toInt_div_of_ne_right _ _ hne1, o_toInt ⟨by omega, by omega⟩, o_toInt ⟨by omega, by omega⟩, o_toInt (x := z) ⟨by omega, by omega⟩, Int.tdiv_eq_ediv_of_nonneg hx.1, hz]
  rw [e1]
  exact kk H locs la hW hS hl
theorem r_irem (C : oCx p s m args meth c G b own cc nL) {x y z : Int} (hx : 0 ≤ x ∧ x < 2147483648) (hy : 0 < y ∧ y < 2147483648) (hz : x % y = z) (hd : decode cc pc = .ok (.irem, 1)) (hq : pc + 1 = q) (kk : oW p l e R s m args below meth c G b nL k n Q T σ q ls (oi z :: st)) : oW p l e R s m args below meth c G b nL k n Q T σ pc ls (oi y :: oi x :: st) := by
  intro H locs la hW hS hl
  subst hq
  have hne : ¬ Int32.ofInt y = 0 := fun h => by have := o_inj (x := y) (y := 0) ⟨by omega, by omega⟩ ⟨by omega, by omega⟩ h; omega
  refine lv_irem C.1 C.2.1 hd hne ?_
  have e1 : Int32.ofInt x / Int32.ofInt y = Int32.ofInt (x / y) := by
    apply Int32.toInt.inj
    have hne1 : Int32.ofInt y ≠ -1 := fun h => by have := o_inj (x := y) (y := -1) ⟨by omega, by omega⟩ ⟨by omega, by omega⟩ (h.trans (show (-1 : Int32) = Int32.ofInt (-1) by decide)); omega
    have hb1 : 0 ≤ x / y := Int.ediv_nonneg hx.1 (by omega)
    have hb2 : x / y ≤ x := Int.ediv_le_self y hx.1
    rw [Int32.toInt_div_of_ne_right _ _ hne1, o_toInt ⟨by omega, by omega⟩, o_toInt ⟨by omega, by omega⟩, o_toInt ⟨by omega, by omega⟩, Int.tdiv_eq_ediv_of_nonneg hx.1]
  rw [e1, ← Int32.ofInt_mul, ← Int32.ofInt_sub, show x - x / y * y = z by rw [← hz, Int.emod_def, Int.mul_comm]]
  exact kk H locs la hW hS hl
theorem r_iand (C : oCx p s m args meth c G b own cc nL) {x y z : Int} (hz : Int32.ofInt x &&& Int32.ofInt y = Int32.ofInt z) (hd : decode cc pc = .ok (.iand, 1)) (hq : pc + 1 = q) (kk : oW p l e R s m args below meth c G b nL k n Q T σ q ls (oi z :: st)) : oW p l e R s m args below meth c G b nL k n Q T σ pc ls (oi y :: oi x :: st) := by
  intro H locs la hW hS hl
  subst hq
  refine lv_iand C.1 C.2.1 hd ?_
  rw [hz]
  exact kk H locs la hW hS hl
theorem r_ior (C : oCx p s m args meth c G b own cc nL) {x y z : Int} (hz : Int32.ofInt x ||| Int32.ofInt y = Int32.ofInt z) (hd : decode cc pc = .ok (.ior, 1)) (hq : pc + 1 = q) (kk : oW p l e R s m args below meth c G b nL k n Q T σ q ls (oi z :: st)) : oW p l e R s m args below meth c G b nL k n Q T σ pc ls (oi y :: oi x :: st) := by
  intro H locs la hW hS hl
  subst hq
  refine lv_ior C.1 C.2.1 hd ?_
  rw [hz]
  exact kk H locs la hW hS hl
theorem r_ishl (C : oCx p s m args meth c G b own cc nL) {x y z : Int} (hz : Int32.ofInt x <<< (Int32.ofInt y &&& 31) = Int32.ofInt z) (hd : decode cc pc = .ok (.ishl, 1)) (hq : pc + 1 = q) (kk : oW p l e R s m args below meth c G b nL k n Q T σ q ls (oi z :: st)) : oW p l e R s m args below meth c G b nL k n Q T σ pc ls (oi y :: oi x :: st) := by
  intro H locs la hW hS hl
  subst hq
  refine lv_ishl C.1 C.2.1 hd ?_
  rw [hz]
  exact kk H locs la hW hS hl
theorem r_i2c (C : oCx p s m args meth c G b own cc nL) {x : Int} (hx : 0 ≤ x ∧ x < 65536) (hd : decode cc pc = .ok (.i2c, 1)) (hq : pc + 1 = q) (kk : oW p l e R s m args below meth c G b nL k n Q T σ q ls (oi x :: st)) : oW p l e R s m args below meth c G b nL k n Q T σ pc ls (oi x :: st) := by
  intro H locs la hW hS hl
  subst hq
  refine lv_i2c C.1 C.2.1 hd ?_ (kk H locs la hW hS hl)
  obtain ⟨j, rfl⟩ : ∃ j : Nat, x = (j : Int) := ⟨x.toNat, by omega⟩
  rw [Int32.ofInt_eq_ofNat]
  have h := pk_char (nI j)
  have h2 : (nI j).toBitVec.toNat = j := pk_tn (by omega)
  rw [h2, Nat.mod_eq_of_lt (by omega)] at h
  exact h
theorem r_i2f (C : oCx p s m args meth c G b own cc nL) {x : Int} (hd : decode cc pc = .ok (.i2f, 1)) (hq : pc + 1 = q) (kk : oW p l e R s m args below meth c G b nL k n Q T σ q ls (ofl (FP.i2f (Int32.ofInt x)) :: st)) : oW p l e R s m args below meth c G b nL k n Q T σ pc ls (oi x :: st) := by
  intro H locs la hW hS hl
  subst hq
  exact lv_i2f C.1 C.2.1 hd (kk H locs la hW hS hl)
theorem r_f2i (C : oCx p s m args meth c G b own cc nL) {x : UInt32} {z : Int} (hz : FP.f2i x = Int32.ofInt z) (hd : decode cc pc = .ok (.f2i, 1)) (hq : pc + 1 = q) (kk : oW p l e R s m args below meth c G b nL k n Q T σ q ls (oi z :: st)) : oW p l e R s m args below meth c G b nL k n Q T σ pc ls (ofl x :: st) := by
  intro H locs la hW hS hl
  subst hq
  refine lv_f2i C.1 C.2.1 hd ?_
  rw [hz]
  exact kk H locs la hW hS hl
theorem r_fadd (C : oCx p s m args meth c G b own cc nL) {x y : UInt32} (hne : vf_n32 (FP.fadd x y)) (hd : decode cc pc = .ok (.fadd, 1)) (hq : pc + 1 = q) (kk : oW p l e R s m args below meth c G b nL k n Q T σ q ls (ofl (FP.fadd x y) :: st)) : oW p l e R s m args below meth c G b nL k n Q T σ pc ls (ofl y :: ofl x :: st) := by
  intro H locs la hW hS hl
  subst hq
  exact lv_fadd C.1 C.2.1 hd hne (kk H locs la hW hS hl)
theorem r_fmul (C : oCx p s m args meth c G b own cc nL) {x y : UInt32} (hne : vf_n32 (FP.fmul x y)) (hd : decode cc pc = .ok (.fmul, 1)) (hq : pc + 1 = q) (kk : oW p l e R s m args below meth c G b nL k n Q T σ q ls (ofl (FP.fmul x y) :: st)) : oW p l e R s m args below meth c G b nL k n Q T σ pc ls (ofl y :: ofl x :: st) := by
  intro H locs la hW hS hl
  subst hq
  exact lv_fmul C.1 C.2.1 hd hne (kk H locs la hW hS hl)
theorem r_fdiv (C : oCx p s m args meth c G b own cc nL) {x y : UInt32} (hne : vf_n32 (FP.fdiv x y)) (hd : decode cc pc = .ok (.fdiv, 1)) (hq : pc + 1 = q) (kk : oW p l e R s m args below meth c G b nL k n Q T σ q ls (ofl (FP.fdiv x y) :: st)) : oW p l e R s m args below meth c G b nL k n Q T σ pc ls (ofl y :: ofl x :: st) := by
  intro H locs la hW hS hl
  subst hq
  exact lv_fdiv C.1 C.2.1 hd hne (kk H locs la hW hS hl)
theorem r_fcmp (C : oCx p s m args meth c G b own cc nL) {x y : UInt32} {op : CmpOp} {z : Int} (hz : Op.cmpValue (FP.fcmp x y) op = Int32.ofInt z) (hd : decode cc pc = .ok (.fcmp op, 1)) (hq : pc + 1 = q) (kk : oW p l e R s m args below meth c G b nL k n Q T σ q ls (oi z :: st)) : oW p l e R s m args below meth c G b nL k n Q T σ pc ls (ofl y :: ofl x :: st) := by
  intro H locs la hW hS hl
  subst hq
  refine lv_fcmp C.1 C.2.1 hd ?_
  rw [hz]
  exact kk H locs la hW hS hl
theorem r_fconst0 (C : oCx p s m args meth c G b own cc nL) (hd : decode cc pc = .ok (.fconst 0, 1)) (hq : pc + 1 = q) (kk : oW p l e R s m args below meth c G b nL k n Q T σ q ls (ofl FP.fconst0 :: st)) : oW p l e R s m args below meth c G b nL k n Q T σ pc ls st := by
  intro H locs la hW hS hl
  subst hq
  exact lv_fconst0 C.1 C.2.1 hd (kk H locs la hW hS hl)
theorem r_fconst1 (C : oCx p s m args meth c G b own cc nL) (hd : decode cc pc = .ok (.fconst 1, 1)) (hq : pc + 1 = q) (kk : oW p l e R s m args below meth c G b nL k n Q T σ q ls (ofl FP.fconst1 :: st)) : oW p l e R s m args below meth c G b nL k n Q T σ pc ls st := by
  intro H locs la hW hS hl
  subst hq
  exact lv_fconst1 C.1 C.2.1 hd (kk H locs la hW hS hl)
theorem r_fconst2 (C : oCx p s m args meth c G b own cc nL) (hd : decode cc pc = .ok (.fconst 2, 1)) (hq : pc + 1 = q) (kk : oW p l e R s m args below meth c G b nL k n Q T σ q ls (ofl FP.fconst2 :: st)) : oW p l e R s m args below meth c G b nL k n Q T σ pc ls st := by
  intro H locs la hW hS hl
  subst hq
  exact lv_fconst2 C.1 C.2.1 hd (kk H locs la hW hS hl)
/-! jumps -/
theorem r_goto (C : oCx p s m args meth c G b own cc nL) {off : Int} (hd : decode cc pc = .ok (.goto off, 3)) (ht : (pc : Int) + off = (q : Int)) (kk : oW p l e R s m args below meth c G b nL k n Q T σ q ls st) : oW p l e R s m args below meth c G b nL k n Q T σ pc ls st := by
  intro H locs la hW hS hl
  exact lv_goto C.1 C.2.1 hd ht (kk H locs la hW hS hl)
theorem r_ifeq (C : oCx p s m args meth c G b own cc nL) {x off : Int} {q2 : Nat} (hr : o_r x) (hd : decode cc pc = .ok (.ifCond .eq off, 3)) (ht : (pc : Int) + off = (q : Int)) (hq : pc + 3 = q2) (kt : x = 0 → oW p l e R s m args below meth c G b nL k n Q T σ q ls st) (kf : x ≠ 0 → oW p l e R s m args below meth c G b nL k n Q T σ q2 ls st) : oW p l e R s m args below meth c G b nL k n Q T σ pc ls (oi x :: st) := by
  intro H locs la hW hS hl
  subst hq
  have hz : o_r 0 := ⟨by omega, by omega⟩
  have hk : (Int32.ofInt x = 0 → oW p l e R s m args below meth c G b nL k n Q T σ q ls st) ∧ (¬ Int32.ofInt x = 0 → oW p l e R s m args below meth c G b nL k n Q T σ (pc + 3) ls st) := ⟨fun h => kt (o_inj hr hz h), fun h => kf (fun e => h (by rw [e]; rfl))⟩
  exact lv_if_eq C.1 C.2.1 hd ht (fun h => hk.1 h H locs la hW hS hl) (fun h => hk.2 h H locs la hW hS hl)
theorem r_ifeq_t (C : oCx p s m args meth c G b own cc nL) {x off : Int} (h : x = 0) (hr : o_r x) (hd : decode cc pc = .ok (.ifCond .eq off, 3)) (ht : (pc : Int) + off = (q : Int)) (kk : oW p l e R s m args below meth c G b nL k n Q T σ q ls st) : oW p l e R s m args below meth c G b nL k n Q T σ pc ls (oi x :: st) := r_ifeq C hr hd ht rfl (fun _ => kk) (fun h2 => by exfalso; omega)
theorem r_ifeq_f (C : oCx p s m args meth c G b own cc nL) {x off : Int} {q2 : Nat} (h : x ≠ 0) (hr : o_r x) (hd : decode cc pc = .ok (.ifCond .eq off, 3)) (ht : (pc : Int) + off = (q : Int)) (hq : pc + 3 = q2) (kk : oW p l e R s m args below meth c G b nL k n Q T σ q2 ls st) : oW p l e R s m args below meth c G b nL k n Q T σ pc ls (oi x :: st) := r_ifeq C hr hd ht hq (fun h2 => by exfalso; omega) (fun _ => kk)
theorem r_ifne (C : oCx p s m args meth c G b own cc nL) {x off : Int} {q2 : Nat} (hr : o_r x) (hd : decode cc pc = .ok (.ifCond .ne off, 3)) (ht : (pc : Int) + off = (q : Int)) (hq : pc + 3 = q2) (kt : x ≠ 0 → oW p l e R s m args below meth c G b nL k n Q T σ q ls st) (kf : x = 0 → oW p l e R s m args below meth c G b nL k n Q T σ q2 ls st) : oW p l e R s m args below meth c G b nL k n Q T σ pc ls (oi x :: st) := by
  intro H locs la hW hS hl
  subst hq
  have hz : o_r 0 := ⟨by omega, by omega⟩
  have hk : (¬ Int32.ofInt x = 0 → oW p l e R s m args below meth c G b nL k n Q T σ q ls st) ∧ (Int32.ofInt x = 0 → oW p l e R s m args below meth c G b nL k n Q T σ (pc + 3) ls st) := ⟨fun h => kt (fun e => h (by rw [e]; rfl)), fun h => kf (o_inj hr hz h)⟩
  exact lv_if_ne C.1 C.2.1 hd ht (fun h => hk.1 h H locs la hW hS hl) (fun h => hk.2 h H locs la hW hS hl)
theorem r_ifne_t (C : oCx p s m args meth c G b own cc nL) {x off : Int} (h : x ≠ 0) (hr : o_r x) (hd : decode cc pc = .ok (.ifCond .ne off, 3)) (ht : (pc : Int) + off = (q : Int)) (kk : oW p l e R s m args below meth c G b nL k n Q T σ q ls st) : oW p l e R s m args below meth c G b nL k n Q T σ pc ls (oi x :: st) := r_ifne C hr hd ht rfl (fun _ => kk) (fun h2 => by exfalso; omega)
theorem r_ifne_f (C : oCx p s m args meth c G b own cc nL) {x off : Int} {q2 : Nat} (h : x = 0) (hr : o_r x) (hd : decode cc pc = .ok (.ifCond .ne off, 3)) (ht : (pc : Int) + off = (q : Int)) (hq : pc + 3 = q2) (kk : oW p l e R s m args below meth c G b nL k n Q T σ q2 ls st) : oW p l e R s m args below meth c G b nL k n Q T σ pc ls (oi x :: st) := r_ifne C hr hd ht hq (fun h2 => by exfalso; omega) (fun _ => kk)
theorem r_iflt (C : oCx p s m args meth c G b own cc nL) {x off : Int} {q2 : Nat} (hr : o_r x) (hd : decode cc pc = .ok (.ifCond .lt off, 3)) (ht : (pc : Int) + off = (q : Int)) (hq : pc + 3 = q2) (kt : x < 0 → oW p l e R s m args below meth c G b nL k n Q T σ q ls st) (kf : 0 ≤ x → oW p l e R s m args below meth c G b nL k n Q T σ q2 ls st) : oW p l e R s m args below meth c G b nL k n Q T σ pc ls (oi x :: st) := by
  intro H locs la hW hS hl
  subst hq
  have hz : o_r 0 := ⟨by omega, by omega⟩
  have hk : (Int32.ofInt x < 0 → oW p l e R s m args below meth c G b nL k n Q T σ q ls st) ∧ (¬ Int32.ofInt x < 0 → oW p l e R s m args below meth c G b nL k n Q T σ (pc + 3) ls st) := ⟨fun h => kt ((o_ltI hr hz).mp h), fun h => kf (Int.not_lt.mp fun e => h ((o_ltI hr hz).mpr e))⟩
  exact lv_if_lt C.1 C.2.1 hd ht (fun h => hk.1 h H locs la hW hS hl) (fun h => hk.2 h H locs la hW hS hl)
theorem r_iflt_t (C : oCx p s m args meth c G b own cc nL) {x off : Int} (h : x < 0) (hr : o_r x) (hd : decode cc pc = .ok (.ifCond .lt off, 3)) (ht : (pc : Int) + off = (q : Int)) (kk : oW p l e R s m args below meth c G b nL k n Q T σ q ls st) : oW p l e R s m args below meth c G b nL k n Q T σ pc ls (oi x :: st) := r_iflt C hr hd ht rfl (fun _ => kk) (fun h2 => by exfalso; omega)
theorem r_iflt_f (C : oCx p s m args meth c G b own cc nL) {x off : Int} {q2 : Nat} (h : 0 ≤ x) (hr : o_r x) (hd : decode cc pc = .ok (.ifCond .lt off, 3)) (ht : (pc : Int) + off = (q : Int)) (hq : pc + 3 = q2) (kk : oW p l e R s m args below meth c G b nL k n Q T σ q2 ls st) : oW p l e R s m args below meth c G b nL k n Q T σ pc ls (oi x :: st) := r_iflt C hr hd ht hq (fun h2 => by exfalso; omega) (fun _ => kk)
theorem r_ifge (C : oCx p s m args meth c G b own cc nL) {x off : Int} {q2 : Nat} (hr : o_r x) (hd : decode cc pc = .ok (.ifCond .ge off, 3)) (ht : (pc : Int) + off = (q : Int)) (hq : pc + 3 = q2) (kt : 0 ≤ x → oW p l e R s m args below meth c G b nL k n Q T σ q ls st) (kf : x < 0 → oW p l e R s m args below meth c G b nL k n Q T σ q2 ls st) : oW p l e R s m args below meth c G b nL k n Q T σ pc ls (oi x :: st) := by
  intro H locs la hW hS hl
  subst hq
  have hz : o_r 0 := ⟨by omega, by omega⟩
  have hk : (0 ≤ Int32.ofInt x → oW p l e R s m args below meth c G b nL k n Q T σ q ls st) ∧ (¬ 0 ≤ Int32.ofInt x → oW p l e R s m args below meth c G b nL k n Q T σ (pc + 3) ls st) := ⟨fun h => kt ((o_leI hz hr).mp h), fun h => kf (Int.not_le.mp fun e => h ((o_leI hz hr).mpr e))⟩
  exact lv_if_ge C.1 C.2.1 hd ht (fun h => hk.1 h H locs la hW hS hl) (fun h => hk.2 h H locs la hW hS hl)
theorem r_ifge_t (C : oCx p s m args meth c G b own cc nL) {x off : Int} (h : 0 ≤ x) (hr : o_r x) (hd : decode cc pc = .ok (.ifCond .ge off, 3)) (ht : (pc : Int) + off = (q : Int)) (kk : oW p l e R s m args below meth c G b nL k n Q T σ q ls st) : oW p l e R s m args below meth c G b nL k n Q T σ pc ls (oi x :: st) := r_ifge C hr hd ht rfl (fun _ => kk) (fun h2 => by exfalso; omega)
theorem r_ifge_f (C : oCx p s m args meth c G b own cc nL) {x off : Int} {q2 : Nat} (h : x < 0) (hr : o_r x) (hd : decode cc pc = .ok (.ifCond .ge off, 3)) (ht : (pc : Int) + off = (q : Int)) (hq : pc + 3 = q2) (kk : oW p l e R s m args below meth c G b nL k n Q T σ q2 ls st) : oW p l e R s m args below meth c G b nL k n Q T σ pc ls (oi x :: st) := r_ifge C hr hd ht hq (fun h2 => by exfalso; omega) (fun _ => kk)
theorem r_ifgt (C : oCx p s m args meth c G b own cc nL) {x off : Int} {q2 : Nat} (hr : o_r x) (hd : decode cc pc = .ok (.ifCond .gt off, 3)) (ht : (pc : Int) + off = (q : Int)) (hq : pc + 3 = q2) (kt : 0 < x → oW p l e R s m args below meth c G b nL k n Q T σ q ls st) (kf : x ≤ 0 → oW p l e R s m args below meth c G b nL k n Q T σ q2 ls st) : oW p l e R s m args below meth c G b nL k n Q T σ pc ls (oi x :: st) := by
  intro H locs la hW hS hl
  subst hq
  have hz : o_r 0 := ⟨by omega, by omega⟩
  have hk : (0 < Int32.ofInt x → oW p l e R s m args below meth c G b nL k n Q T σ q ls st) ∧ (¬ 0 < Int32.ofInt x → oW p l e R s m args below meth c G b nL k n Q T σ (pc + 3) ls st) := ⟨fun h => kt ((o_ltI hz hr).mp h), fun h => kf (Int.not_lt.mp fun e => h ((o_ltI hz hr).mpr e))⟩
  exact lv_if_gt C.1 C.2.1 hd ht (fun h => hk.1 h H locs la hW hS hl) (fun h => hk.2 h H locs la hW hS hl)
theorem r_ifgt_t (C : oCx p s m args meth c G b own cc nL) {x off : Int} (h : 0 < x) (hr : o_r x) (hd : decode cc pc = .ok (.ifCond .gt off, 3)) (ht : (pc : Int) + off = (q : Int)) (kk : oW p l e R s m args below meth c G b nL k n Q T σ q ls st) : oW p l e R s m args below meth c G b nL k n Q T σ pc ls (oi x :: st) := r_ifgt C hr hd ht rfl (fun _ => kk) (fun h2 => by exfalso; omega)
theorem r_ifgt_f (C : oCx p s m args meth c G b own cc nL) {x off : Int} {q2 : Nat} (h : x ≤ 0) (hr : o_r x) (hd : decode cc pc = .ok (.ifCond .gt off, 3)) (ht : (pc : Int) + off = (q : Int)) (hq : pc + 3 = q2) (kk : oW p l e R s m args below meth c G b nL k n Q T σ q2 ls st) : oW p l e R s m args below meth c G b nL k n Q T σ pc ls (oi x :: st) := r_ifgt C hr hd ht hq (fun h2 => by exfalso; omega) (fun _ => kk)
theorem r_ifle (C : oCx p s m args meth c G b own cc nL) {x off : Int} {q2 : Nat} (hr : o_r x) (hd : decode cc pc = .ok (.ifCond .le off, 3)) (ht : (pc : Int) + off = (q : Int)) (hq : pc + 3 = q2) (kt : x ≤ 0 → oW p l e R s m args below meth c G b nL k n Q T σ q ls st) (kf : 0 < x → oW p l e R s m args below meth c G b nL k n Q T σ q2 ls st) : oW p l e R s m args below meth c G b nL k n Q T σ pc ls (oi x :: st) := by
  intro H locs la hW hS hl
  subst hq
  have hz : o_r 0 := ⟨by omega, by omega⟩
  have hk : (Int32.ofInt x ≤ 0 → oW p l e R s m args below meth c G b nL k n Q T σ q ls st) ∧ (¬ Int32.ofInt x ≤ 0 → oW p l e R s m args below meth c G b nL k n Q T σ (pc + 3) ls st) := ⟨fun h => kt ((o_leI hr hz).mp h), fun h => kf (Int.not_le.mp fun e => h ((o_leI hr hz).mpr e))⟩
  exact lv_if_le C.1 C.2.1 hd ht (fun h => hk.1 h H locs la hW hS hl) (fun h => hk.2 h H locs la hW hS hl)
theorem r_ifle_t (C : oCx p s m args meth c G b own cc nL) {x off : Int} (h : x ≤ 0) (hr : o_r x) (hd : decode cc pc = .ok (.ifCond .le off, 3)) (ht : (pc : Int) + off = (q : Int)) (kk : oW p l e R s m args below meth c G b nL k n Q T σ q ls st) : oW p l e R s m args below meth c G b nL k n Q T σ pc ls (oi x :: st) := r_ifle C hr hd ht rfl (fun _ => kk) (fun h2 => by exfalso; omega)
theorem r_ifle_f (C : oCx p s m args meth c G b own cc nL) {x off : Int} {q2 : Nat} (h : 0 < x) (hr : o_r x) (hd : decode cc pc = .ok (.ifCond .le off, 3)) (ht : (pc : Int) + off = (q : Int)) (hq : pc + 3 = q2) (kk : oW p l e R s m args below meth c G b nL k n Q T σ q2 ls st) : oW p l e R s m args below meth c G b nL k n Q T σ pc ls (oi x :: st) := r_ifle C hr hd ht hq (fun h2 => by exfalso; omega) (fun _ => kk)
theorem r_iceq (C : oCx p s m args meth c G b own cc nL) {x y off : Int} {q2 : Nat} (hr : o_r x) (hr2 : o_r y) (hd : decode cc pc = .ok (.if_icmp .eq off, 3)) (ht : (pc : Int) + off = (q : Int)) (hq : pc + 3 = q2) (kt : x = y → oW p l e R s m args below meth c G b nL k n Q T σ q ls st) (kf : x ≠ y → oW p l e R s m args below meth c G b nL k n Q T σ q2 ls st) : oW p l e R s m args below meth c G b nL k n Q T σ pc ls (oi y :: oi x :: st) := by
  intro H locs la hW hS hl
  subst hq
  have hk : (Int32.ofInt x = Int32.ofInt y → oW p l e R s m args below meth c G b nL k n Q T σ q ls st) ∧ (¬ Int32.ofInt x = Int32.ofInt y → oW p l e R s m args below meth c G b nL k n Q T σ (pc + 3) ls st) := ⟨fun h => kt (o_inj hr hr2 h), fun h => kf (fun e => h (by rw [e]))⟩
  exact lv_icmp_eq C.1 C.2.1 hd ht (fun h => hk.1 h H locs la hW hS hl) (fun h => hk.2 h H locs la hW hS hl)
theorem r_iceq_t (C : oCx p s m args meth c G b own cc nL) {x y off : Int} (h : x = y) (hr : o_r x) (hr2 : o_r y) (hd : decode cc pc = .ok (.if_icmp .eq off, 3)) (ht : (pc : Int) + off = (q : Int)) (kk : oW p l e R s m args below meth c G b nL k n Q T σ q ls st) : oW p l e R s m args below meth c G b nL k n Q T σ pc ls (oi y :: oi x :: st) := r_iceq C hr hr2 hd ht rfl (fun _ => kk) (fun h2 => by exfalso; omega)
theorem r_iceq_f (C : oCx p s m args meth c G b own cc nL) {x y off : Int} {q2 : Nat} (h : x ≠ y) (hr : o_r x) (hr2 : o_r y) (hd : decode cc pc = .ok (.if_icmp .eq off, 3)) (ht : (pc : Int) + off = (q : Int)) (hq : pc + 3 = q2) (kk : oW p l e R s m args below meth c G b nL k n Q T σ q2 ls st) : oW p l e R s m args below meth c G b nL k n Q T σ pc ls (oi y :: oi x :: st) := r_iceq C hr hr2 hd ht hq (fun h2 => by exfalso; omega) (fun _ => kk)
theorem r_icne (C : oCx p s m args meth c G b own cc nL) {x y off : Int} {q2 : Nat} (hr : o_r x) (hr2 : o_r y) (hd : decode cc pc = .ok (.if_icmp .ne off, 3)) (ht : (pc : Int) + off = (q : Int)) (hq : pc + 3 = q2) (kt : x ≠ y → oW p l e R s m args below meth c G b nL k n Q T σ q ls st) (kf : x = y → oW p l e R s m args below meth c G b nL k n Q T σ q2 ls st) : oW p l e R s m args below meth c G b nL k n Q T σ pc ls (oi y :: oi x :: st) := by
  intro H locs la hW hS hl
  subst hq
  have hk : (¬ Int32.ofInt x = Int32.ofInt y → oW p l e R s m args below meth c G b nL k n Q T σ q ls st) ∧ (Int32.ofInt x = Int32.ofInt y → oW p l e R s m args below meth c G b nL k n Q T σ (pc + 3) ls st) := ⟨fun h => kt (fun e => h (by rw [e])), fun h => kf (o_inj hr hr2 h)⟩
  exact lv_icmp_ne C.1 C.2.1 hd ht (fun h => hk.1 h H locs la hW hS hl) (fun h => hk.2 h H locs la hW hS hl)
theorem r_icne_t (C : oCx p s m args meth c G b own cc nL) {x y off : Int} (h : x ≠ y) (hr : o_r x) (hr2 : o_r y) (hd : decode cc pc = .ok (.if_icmp .ne off, 3)) (ht : (pc : Int) + off = (q : Int)) (kk : oW p l e R s m args below meth c G b nL k n Q T σ q ls st) : oW p l e R s m args below meth c G b nL k n Q T σ pc ls (oi y :: oi x :: st) := r_icne C hr hr2 hd ht rfl (fun _ => kk) (fun h2 => by exfalso; omega)
theorem r_icne_f (C : oCx p s m args meth c G b own cc nL) {x y off : Int} {q2 : Nat} (h : x = y) (hr : o_r x) (hr2 : o_r y) (hd : decode cc pc = .ok (.if_icmp .ne off, 3)) (ht : (pc : Int) + off = (q : Int)) (hq : pc + 3 = q2) (kk : oW p l e R s m args below meth c G b nL k n Q T σ q2 ls st) : oW p l e R s m args below meth c G b nL k n Q T σ pc ls (oi y :: oi x :: st) := r_icne C hr hr2 hd ht hq (fun h2 => by exfalso; omega) (fun _ => kk)
theorem r_iclt (C : oCx p s m args meth c G b own cc nL) {x y off : Int} {q2 : Nat} (hr : o_r x) (hr2 : o_r y) (hd : decode cc pc = .ok (.if_icmp .lt off, 3)) (ht : (pc : Int) + off = (q : Int)) (hq : pc + 3 = q2) (kt : x < y → oW p l e R s m args below meth c G b nL k n Q T σ q ls st) (kf : y ≤ x → oW p l e R s m args below meth c G b nL k n Q T σ q2 ls st) : oW p l e R s m args below meth c G b nL k n Q T σ pc ls (oi y :: oi x :: st) := by
  intro H locs la hW hS hl
  subst hq
  have hk : (Int32.ofInt x < Int32.ofInt y → oW p l e R s m args below meth c G b nL k n Q T σ q ls st) ∧ (¬ Int32.ofInt x < Int32.ofInt y → oW p l e R s m args below meth c G b nL k n Q T σ (pc + 3) ls st) := ⟨fun h => kt ((o_ltI hr hr2).mp h), fun h => kf (Int.not_lt.mp fun e => h ((o_ltI hr hr2).mpr e))⟩
  exact lv_icmp_lt C.1 C.2.1 hd ht (fun h => hk.1 h H locs la hW hS hl) (fun h => hk.2 h H locs la hW hS hl)
theorem r_iclt_t (C : oCx p s m args meth c G b own cc nL) {x y off : Int} (h : x < y) (hr : o_r x) (hr2 : o_r y) (hd : decode cc pc = .ok (.if_icmp .lt off, 3)) (ht : (pc : Int) + off = (q : Int)) (kk : oW p l e R s m args below meth c G b nL k n Q T σ q ls st) : oW p l e R s m args below meth c G b nL k n Q T σ pc ls (oi y :: oi x :: st) := r_iclt C hr hr2 hd ht rfl (fun _ => kk) (fun h2 => by exfalso; omega)
theorem r_iclt_f (C : oCx p s m args meth c G b own cc nL) {x y off : Int} {q2 : Nat} (h : y ≤ x) (hr : o_r x) (hr2 : o_r y) (hd : decode cc pc = .ok (.if_icmp .lt off, 3)) (ht : (pc : Int) + off = (q : Int)) (hq : pc + 3 = q2) (kk : oW p l e R s m args below meth c G b nL k n Q T σ q2 ls st) : oW p l e R s m args below meth c G b nL k n Q T σ pc ls (oi y :: oi x :: st) := r_iclt C hr hr2 hd ht hq (fun h2 => by exfalso; omega) (fun _ => kk)
theorem r_icge (C : oCx p s m args meth c G b own cc nL) {x y off : Int} {q2 : Nat} (hr : o_r x) (hr2 : o_r y) (hd : decode cc pc = .ok (.if_icmp .ge off, 3)) (ht : (pc : Int) + off = (q : Int)) (hq : pc + 3 = q2) (kt : y ≤ x → oW p l e R s m args below meth c G b nL k n Q T σ q ls st) (kf : x < y → oW p l e R s m args below meth c G b nL k n Q T σ q2 ls st) : oW p l e R s m args below meth c G b nL k n Q T σ pc ls (oi y :: oi x :: st) := by
  intro H locs la hW hS hl
  subst hq
  have hk : (Int32.ofInt y ≤ Int32.ofInt x → oW p l e R s m args below meth c G b nL k n Q T σ q ls st) ∧ (¬ Int32.ofInt y ≤ Int32.ofInt x → oW p l e R s m args below meth c G b nL k n Q T σ (pc + 3) ls st) := ⟨fun h => kt ((o_leI hr2 hr).mp h), fun h => kf (Int.not_le.mp fun e => h ((o_leI hr2 hr).mpr e))⟩
  exact lv_icmp_ge C.1 C.2.1 hd ht (fun h => hk.1 h H locs la hW hS hl) (fun h => hk.2 h H locs la hW hS hl)
theorem r_icge_t (C : oCx p s m args meth c G b own cc nL) {x y off : Int} (h : y ≤ x) (hr : o_r x) (hr2 : o_r y) (hd : decode cc pc = .ok (.if_icmp .ge off, 3)) (ht : (pc : Int) + off = (q : Int)) (kk : oW p l e R s m args below meth c G b nL k n Q T σ q ls st) : oW p l e R s m args below meth c G b nL k n Q T σ pc ls (oi y :: oi x :: st) := r_icge C hr hr2 hd ht rfl (fun _ => kk) (fun h2 => by exfalso; omega)
theorem r_icge_f (C : oCx p s m args meth c G b own cc nL) {x y off : Int} {q2 : Nat} (h : x < y) (hr : o_r x) (hr2 : o_r y) (hd : decode cc pc = .ok (.if_icmp .ge off, 3)) (ht : (pc : Int) + off = (q : Int)) (hq : pc + 3 = q2) (kk : oW p l e R s m args below meth c G b nL k n Q T σ q2 ls st) : oW p l e R s m args below meth c G b nL k n Q T σ pc ls (oi y :: oi x :: st) := r_icge C hr hr2 hd ht hq (fun h2 => by exfalso; omega) (fun _ => kk)
theorem r_icgt (C : oCx p s m args meth c G b own cc nL) {x y off : Int} {q2 : Nat} (hr : o_r x) (hr2 : o_r y) (hd : decode cc pc = .ok (.if_icmp .gt off, 3)) (ht : (pc : Int) + off = (q : Int)) (hq : pc + 3 = q2) (kt : y < x → oW p l e R s m args below meth c G b nL k n Q T σ q ls st) (kf : x ≤ y → oW p l e R s m args below meth c G b nL k n Q T σ q2 ls st) : oW p l e R s m args below meth c G b nL k n Q T σ pc ls (oi y :: oi x :: st) := by
  intro H locs la hW hS hl
  subst hq
  have hk : (Int32.ofInt y < Int32.ofInt x → oW p l e R s m args below meth c G b nL k n Q T σ q ls st) ∧ (¬ Int32.ofInt y < Int32.ofInt x → oW p l e R s m args below meth c G b nL k n Q T σ (pc + 3) ls st) := ⟨fun h => kt ((o_ltI hr2 hr).mp h), fun h => kf (Int.not_lt.mp fun e => h ((o_ltI hr2 hr).mpr e))⟩
  exact lv_icmp_gt C.1 C.2.1 hd ht (fun h => hk.1 h H locs la hW hS hl) (fun h => hk.2 h H locs la hW hS hl)
theorem r_icgt_t (C : oCx p s m args meth c G b own cc nL) {x y off : Int} (h : y < x) (hr : o_r x) (hr2 : o_r y) (hd : decode cc pc = .ok (.if_icmp .gt off, 3)) (ht : (pc : Int) + off = (q : Int)) (kk : oW p l e R s m args below meth c G b nL k n Q T σ q ls st) : oW p l e R s m args below meth c G b nL k n Q T σ pc ls (oi y :: oi x :: st) := r_icgt C hr hr2 hd ht rfl (fun _ => kk) (fun h2 => by exfalso; omega)
theorem r_icgt_f (C : oCx p s m args meth c G b own cc nL) {x y off : Int} {q2 : Nat} (h : x ≤ y) (hr : o_r x) (hr2 : o_r y) (hd : decode cc pc = .ok (.if_icmp .gt off, 3)) (ht : (pc : Int) + off = (q : Int)) (hq : pc + 3 = q2) (kk : oW p l e R s m args below meth c G b nL k n Q T σ q2 ls st) : oW p l e R s m args below meth c G b nL k n Q T σ pc ls (oi y :: oi x :: st) := r_icgt C hr hr2 hd ht hq (fun h2 => by exfalso; omega) (fun _ => kk)
theorem r_icle (C : oCx p s m args meth c G b own cc nL) {x y off : Int} {q2 : Nat} (hr : o_r x) (hr2 : o_r y) (hd : decode cc pc = .ok (.if_icmp .le off, 3)) (ht : (pc : Int) + off = (q : Int)) (hq : pc + 3 = q2) (kt : x ≤ y → oW p l e R s m args below meth c G b nL k n Q T σ q ls st) (kf : y < x → oW p l e R s m args below meth c G b nL k n Q T σ q2 ls st) : oW p l e R s m args below meth c G b nL k n Q T σ pc ls (oi y :: oi x :: st) := by
  intro H locs la hW hS hl
  subst hq
  have hk : (Int32.ofInt x ≤ Int32.ofInt y → oW p l e R s m args below meth c G b nL k n Q T σ q ls st) ∧ (¬ Int32.ofInt x ≤ Int32.ofInt y → oW p l e R s m args below meth c G b nL k n Q T σ (pc + 3) ls st) := ⟨fun h => kt ((o_leI hr hr2).mp h), fun h => kf (Int.not_le.mp fun e => h ((o_leI hr hr2).mpr e))⟩
  exact lv_icmp_le C.1 C.2.1 hd ht (fun h => hk.1 h H locs la hW hS hl) (fun h => hk.2 h H locs la hW hS hl)
theorem r_icle_t (C : oCx p s m args meth c G b own cc nL) {x y off : Int} (h : x ≤ y) (hr : o_r x) (hr2 : o_r y) (hd : decode cc pc = .ok (.if_icmp .le off, 3)) (ht : (pc : Int) + off = (q : Int)) (kk : oW p l e R s m args below meth c G b nL k n Q T σ q ls st) : oW p l e R s m args below meth c G b nL k n Q T σ pc ls (oi y :: oi x :: st) := r_icle C hr hr2 hd ht rfl (fun _ => kk) (fun h2 => by exfalso; omega)
theorem r_icle_f (C : oCx p s m args meth c G b own cc nL) {x y off : Int} {q2 : Nat} (h : y < x) (hr : o_r x) (hr2 : o_r y) (hd : decode cc pc = .ok (.if_icmp .le off, 3)) (ht : (pc : Int) + off = (q : Int)) (hq : pc + 3 = q2) (kk : oW p l e R s m args below meth c G b nL k n Q T σ q2 ls st) : oW p l e R s m args below meth c G b nL k n Q T σ pc ls (oi y :: oi x :: st) := r_icle C hr hr2 hd ht hq (fun h2 => by exfalso; omega) (fun _ => kk)
theorem r_il0 (C : oCx p s m args meth c G b own cc nL) {z : Int} (hd : decode cc pc = .ok (.iload_n 0, 1)) (hq : pc + 1 = q) (kk : oW p l e R s m args below meth c G b nL k n Q T σ q (some (oi z) :: ls) (oi z :: st)) : oW p l e R s m args below meth c G b nL k n Q T σ pc (some (oi z) :: ls) st := by
  intro H locs la hW hS hl
  subst hq
  exact lv_iload_n C.1 C.2.1 hd rfl (o_lvat hl (k := 0) (v := oi z) rfl) (kk H locs la hW hS hl)
theorem r_al0 (C : oCx p s m args meth c G b own cc nL) {z : Nat} (hd : decode cc pc = .ok (.aload_n 0, 1)) (hq : pc + 1 = q) (kk : oW p l e R s m args below meth c G b nL k n Q T σ q (some (og z) :: ls) (og z :: st)) : oW p l e R s m args below meth c G b nL k n Q T σ pc (some (og z) :: ls) st := by
  intro H locs la hW hS hl
  subst hq
  exact lv_aload_n C.1 C.2.1 hd rfl (o_lvat hl (k := 0) (v := og z) rfl) (kk H locs la hW hS hl)
theorem r_aal0 (C : oCx p s m args meth c G b own cc nL) {z : Nat} (hd : decode cc pc = .ok (.aload_n 0, 1)) (hq : pc + 1 = q) (kk : oW p l e R s m args below meth c G b nL k n Q T σ q (some (oa z) :: ls) (oa z :: st)) : oW p l e R s m args below meth c G b nL k n Q T σ pc (some (oa z) :: ls) st := by
  intro H locs la hW hS hl
  subst hq
  exact lv_aload_n C.1 C.2.1 hd rfl (o_lvat hl (k := 0) (v := oa z) rfl) (kk H locs la hW hS hl)
theorem r_fl0 (C : oCx p s m args meth c G b own cc nL) {z : UInt32} (hd : decode cc pc = .ok (.fload_n 0, 1)) (hq : pc + 1 = q) (kk : oW p l e R s m args below meth c G b nL k n Q T σ q (some (ofl z) :: ls) (ofl z :: st)) : oW p l e R s m args below meth c G b nL k n Q T σ pc (some (ofl z) :: ls) st := by
  intro H locs la hW hS hl
  subst hq
  exact lv_fload_n C.1 C.2.1 hd rfl (o_lvat hl (k := 0) (v := ofl z) rfl) (kk H locs la hW hS hl)
theorem r_is0 (C : oCx p s m args meth c G b own cc nL) {w : Option oV} {z : Int} (hd : decode cc pc = .ok (.istore_n 0, 1)) (hq : pc + 1 = q) (hn : 0 < nL) (kk : oW p l e R s m args below meth c G b nL k n Q T σ q (some (oi z) :: ls) st) : oW p l e R s m args below meth c G b nL k n Q T σ pc (w :: ls) (oi z :: st) := by
  intro H locs la hW hS hl
  subst hq
  exact lv_istore_n C.1 C.2.1 hd rfl hl hn rfl (fun la' hl' => kk H locs la' hW hS (o_lvset (ls := w :: ls) (v := oi z) hl'))
theorem r_as0 (C : oCx p s m args meth c G b own cc nL) {w : Option oV} {z : Nat} (hd : decode cc pc = .ok (.astore_n 0, 1)) (hq : pc + 1 = q) (hn : 0 < nL) (kk : oW p l e R s m args below meth c G b nL k n Q T σ q (some (og z) :: ls) st) : oW p l e R s m args below meth c G b nL k n Q T σ pc (w :: ls) (og z :: st) := by
  intro H locs la hW hS hl
  subst hq
  exact lv_astore_n C.1 C.2.1 hd rfl hl hn rfl (fun la' hl' => kk H locs la' hW hS (o_lvset (ls := w :: ls) (v := og z) hl'))
theorem r_aas0 (C : oCx p s m args meth c G b own cc nL) {w : Option oV} {z : Nat} (hd : decode cc pc = .ok (.astore_n 0, 1)) (hq : pc + 1 = q) (hn : 0 < nL) (kk : oW p l e R s m args below meth c G b nL k n Q T σ q (some (oa z) :: ls) st) : oW p l e R s m args below meth c G b nL k n Q T σ pc (w :: ls) (oa z :: st) := by
  intro H locs la hW hS hl
  subst hq
  exact lv_astore_n C.1 C.2.1 hd rfl hl hn rfl (fun la' hl' => kk H locs la' hW hS (o_lvset (ls := w :: ls) (v := oa z) hl'))
theorem r_fs0 (C : oCx p s m args meth c G b own cc nL) {w : Option oV} {z : UInt32} (hd : decode cc pc = .ok (.fstore_n 0, 1)) (hq : pc + 1 = q) (hn : 0 < nL) (kk : oW p l e R s m args below meth c G b nL k n Q T σ q (some (ofl z) :: ls) st) : oW p l e R s m args below meth c G b nL k n Q T σ pc (w :: ls) (ofl z :: st) := by
  intro H locs la hW hS hl
  subst hq
  exact lv_fstore_n C.1 C.2.1 hd rfl hl hn rfl (fun la' hl' => kk H locs la' hW hS (o_lvset (ls := w :: ls) (v := ofl z) hl'))
theorem r_iinc0 (C : oCx p s m args meth c G b own cc nL) {z d : Int} (hd : decode cc pc = .ok (.iinc 0 d, 3)) (hq : pc + 3 = q) (hn : 0 < nL) (kk : oW p l e R s m args below meth c G b nL k n Q T σ q (some (oi (z + d)) :: ls) st) : oW p l e R s m args below meth c G b nL k n Q T σ pc (some (oi z) :: ls) st := by
  intro H locs la hW hS hl
  subst hq
  obtain ⟨k', hk'⟩ := List.getElem?_of_mem (o_lv_mem (b := b) (i := 0) (ls := some (oi z) :: ls) (k := 0) (v := oi z) rfl)
  exact lv_iinc (v := Int32.ofInt (z + d)) C.1 C.2.1 hd hl (k := k') (i := 0) (x := Int32.ofInt z) hk' (Int32.ofInt_add z d).symm hn rfl (fun la' hl' => kk H locs la' hW hS (o_lvset (ls := some (oi z) :: ls) (v := oi (z + d)) hl'))
theorem r_il1 (C : oCx p s m args meth c G b own cc nL) {x0 : Option oV} {z : Int} (hd : decode cc pc = .ok (.iload_n 1, 1)) (hq : pc + 1 = q) (kk : oW p l e R s m args below meth c G b nL k n Q T σ q (x0 :: some (oi z) :: ls) (oi z :: st)) : oW p l e R s m args below meth c G b nL k n Q T σ pc (x0 :: some (oi z) :: ls) st := by
  intro H locs la hW hS hl
  subst hq
  exact lv_iload_n C.1 C.2.1 hd rfl (o_lvat hl (k := 1) (v := oi z) rfl) (kk H locs la hW hS hl)
theorem r_al1 (C : oCx p s m args meth c G b own cc nL) {x0 : Option oV} {z : Nat} (hd : decode cc pc = .ok (.aload_n 1, 1)) (hq : pc + 1 = q) (kk : oW p l e R s m args below meth c G b nL k n Q T σ q (x0 :: some (og z) :: ls) (og z :: st)) : oW p l e R s m args below meth c G b nL k n Q T σ pc (x0 :: some (og z) :: ls) st := by
  intro H locs la hW hS hl
  subst hq
  exact lv_aload_n C.1 C.2.1 hd rfl (o_lvat hl (k := 1) (v := og z) rfl) (kk H locs la hW hS hl)
theorem r_aal1 (C : oCx p s m args meth c G b own cc nL) {x0 : Option oV} {z : Nat} (hd : decode cc pc = .ok (.aload_n 1, 1)) (hq : pc + 1 = q) (kk : oW p l e R s m args below meth c G b nL k n Q T σ q (x0 :: some (oa z) :: ls) (oa z :: st)) : oW p l e R s m args below meth c G b nL k n Q T σ pc (x0 :: some (oa z) :: ls) st := by
  intro H locs la hW hS hl
  subst hq
  exact lv_aload_n C.1 C.2.1 hd rfl (o_lvat hl (k := 1) (v := oa z) rfl) (kk H locs la hW hS hl)
theorem r_fl1 (C : oCx p s m args meth c G b own cc nL) {x0 : Option oV} {z : UInt32} (hd : decode cc pc = .ok (.fload_n 1, 1)) (hq : pc + 1 = q) (kk : oW p l e R s m args below meth c G b nL k n Q T σ q (x0 :: some (ofl z) :: ls) (ofl z :: st)) : oW p l e R s m args below meth c G b nL k n Q T σ pc (x0 :: some (ofl z) :: ls) st := by
  intro H locs la hW hS hl
  subst hq
  exact lv_fload_n C.1 C.2.1 hd rfl (o_lvat hl (k := 1) (v := ofl z) rfl) (kk H locs la hW hS hl)
theorem r_is1 (C : oCx p s m args meth c G b own cc nL) {x0 : Option oV} {w : Option oV} {z : Int} (hd : decode cc pc = .ok (.istore_n 1, 1)) (hq : pc + 1 = q) (hn : 1 < nL) (kk : oW p l e R s m args below meth c G b nL k n Q T σ q (x0 :: some (oi z) :: ls) st) : oW p l e R s m args below meth c G b nL k n Q T σ pc (x0 :: w :: ls) (oi z :: st) := by
  intro H locs la hW hS hl
  subst hq
  exact lv_istore_n C.1 C.2.1 hd rfl hl hn rfl (fun la' hl' => kk H locs la' hW hS (o_lvset (ls := x0 :: w :: ls) (v := oi z) hl'))
theorem r_as1 (C : oCx p s m args meth c G b own cc nL) {x0 : Option oV} {w : Option oV} {z : Nat} (hd : decode cc pc = .ok (.astore_n 1, 1)) (hq : pc + 1 = q) (hn : 1 < nL) (kk : oW p l e R s m args below meth c G b nL k n Q T σ q (x0 :: some (og z) :: ls) st) : oW p l e R s m args below meth c G b nL k n Q T σ pc (x0 :: w :: ls) (og z :: st) := by
  intro H locs la hW hS hl
  subst hq
  exact lv_astore_n C.1 C.2.1 hd rfl hl hn rfl (fun la' hl' => kk H locs la' hW hS (o_lvset (ls := x0 :: w :: ls) (v := og z) hl'))
theorem r_aas1 (C : oCx p s m args meth c G b own cc nL) {x0 : Option oV} {w : Option oV} {z : Nat} (hd : decode cc pc = .ok (.astore_n 1, 1)) (hq : pc + 1 = q) (hn : 1 < nL) (kk : oW p l e R s m args below meth c G b nL k n Q T σ q (x0 :: some (oa z) :: ls) st) : oW p l e R s m args below meth c G b nL k n Q T σ pc (x0 :: w :: ls) (oa z :: st) := by
  intro H locs la hW hS hl
  subst hq
  exact lv_astore_n C.1 C.2.1 hd rfl hl hn rfl (fun la' hl' => kk H locs la' hW hS (o_lvset (ls := x0 :: w :: ls) (v := oa z) hl'))
theorem r_fs1 (C : oCx p s m args meth c G b own cc nL) {x0 : Option oV} {w : Option oV} {z : UInt32} (hd : decode cc pc = .ok (.fstore_n 1, 1)) (hq : pc + 1 = q) (hn : 1 < nL) (kk : oW p l e R s m args below meth c G b nL k n Q T σ q (x0 :: some (ofl z) :: ls) st) : oW p l e R s m args below meth c G b nL k n Q T σ pc (x0 :: w :: ls) (ofl z :: st) := by
  intro H locs la hW hS hl
  subst hq
  exact lv_fstore_n C.1 C.2.1 hd rfl hl hn rfl (fun la' hl' => kk H locs la' hW hS (o_lvset (ls := x0 :: w :: ls) (v := ofl z) hl'))
theorem r_iinc1 (C : oCx p s m args meth c G b own cc nL) {x0 : Option oV} {z d : Int} (hd : decode cc pc = .ok (.iinc 1 d, 3)) (hq : pc + 3 = q) (hn : 1 < nL) (kk : oW p l e R s m args below meth c G b nL k n Q T σ q (x0 :: some (oi (z + d)) :: ls) st) : oW p l e R s m args below meth c G b nL k n Q T σ pc (x0 :: some (oi z) :: ls) st := by
  intro H locs la hW hS hl
  subst hq
  obtain ⟨k', hk'⟩ := List.getElem?_of_mem (o_lv_mem (b := b) (i := 0) (ls := x0 :: some (oi z) :: ls) (k := 1) (v := oi z) rfl)
  exact lv_iinc (v := Int32.ofInt (z + d)) C.1 C.2.1 hd hl (k := k') (i := 1) (x := Int32.ofInt z) hk' (Int32.ofInt_add z d).symm hn rfl (fun la' hl' => kk H locs la' hW hS (o_lvset (ls := x0 :: some (oi z) :: ls) (v := oi (z + d)) hl'))
theorem r_il2 (C : oCx p s m args meth c G b own cc nL) {x0 x1 : Option oV} {z : Int} (hd : decode cc pc = .ok (.iload_n 2, 1)) (hq : pc + 1 = q) (kk : oW p l e R s m args below meth c G b nL k n Q T σ q (x0 :: x1 :: some (oi z) :: ls) (oi z :: st)) : oW p l e R s m args below meth c G b nL k n Q T σ pc (x0 :: x1 :: some (oi z) :: ls) st := by
  intro H locs la hW hS hl
  subst hq
  exact lv_iload_n C.1 C.2.1 hd rfl (o_lvat hl (k := 2) (v := oi z) rfl) (kk H locs la hW hS hl)
theorem r_al2 (C : oCx p s m args meth c G b own cc nL) {x0 x1 : Option oV} {z : Nat} (hd : decode cc pc = .ok (.aload_n 2, 1)) (hq : pc + 1 = q) (kk : oW p l e R s m args below meth c G b nL k n Q T σ q (x0 :: x1 :: some (og z) :: ls) (og z :: st)) : oW p l e R s m args below meth c G b nL k n Q T σ pc (x0 :: x1 :: some (og z) :: ls) st := by
  intro H locs la hW hS hl
  subst hq
  exact lv_aload_n C.1 C.2.1 hd rfl (o_lvat hl (k := 2) (v := og z) rfl) (kk H locs la hW hS hl)
theorem r_aal2 (C : oCx p s m args meth c G b own cc nL) {x0 x1 : Option oV} {z : Nat} (hd : decode cc pc = .ok (.aload_n 2, 1)) (hq : pc + 1 = q) (kk : oW p l e R s m args below meth c G b nL k n Q T σ q (x0 :: x1 :: some (oa z) :: ls) (oa z :: st)) : oW p l e R s m args below meth c G b nL k n Q T σ pc (x0 :: x1 :: some (oa z) :: ls) st := by
  intro H locs la hW hS hl
  subst hq
  exact lv_aload_n C.1 C.2.1 hd rfl (o_lvat hl (k := 2) (v := oa z) rfl) (kk H locs la hW hS hl)
theorem r_fl2 (C : oCx p s m args meth c G b own cc nL) {x0 x1 : Option oV} {z : UInt32} (hd : decode cc pc = .ok (.fload_n 2, 1)) (hq : pc + 1 = q) (kk : oW p l e R s m args below meth c G b nL k n Q T σ q (x0 :: x1 :: some (ofl z) :: ls) (ofl z :: st)) : oW p l e R s m args below meth c G b nL k n Q T σ pc (x0 :: x1 :: some (ofl z) :: ls) st := by
  intro H locs la hW hS hl
  subst hq
  exact lv_fload_n C.1 C.2.1 hd rfl (o_lvat hl (k := 2) (v := ofl z) rfl) (kk H locs la hW hS hl)
theorem r_is2 (C : oCx p s m args meth c G b own cc nL) {x0 x1 : Option oV} {w : Option oV} {z : Int} (hd : decode cc pc = .ok (.istore_n 2, 1)) (hq : pc + 1 = q) (hn : 2 < nL) (kk : oW p l e R s m args below meth c G b nL k n Q T σ q (x0 :: x1 :: some (oi z) :: ls) st) : oW p l e R s m args below meth c G b nL k n Q T σ pc (x0 :: x1 :: w :: ls) (oi z :: st) := by
  intro H locs la hW hS hl
  subst hq
  exact lv_istore_n C.1 C.2.1 hd rfl hl hn rfl (fun la' hl' => kk H locs la' hW hS (o_lvset (ls := x0 :: x1 :: w :: ls) (v := oi z) hl'))
theorem r_as2 (C : oCx p s m args meth c G b own cc nL) {x0 x1 : Option oV} {w : Option oV} {z : Nat} (hd : decode cc pc = .ok (.astore_n 2, 1)) (hq : pc + 1 = q) (hn : 2 < nL) (kk : oW p l e R s m args below meth c G b nL k n Q T σ q (x0 :: x1 :: some (og z) :: ls) st) : oW p l e R s m args below meth c G b nL k n Q T σ pc (x0 :: x1 :: w :: ls) (og z :: st) := by
  intro H locs la hW hS hl
  subst hq
  exact lv_astore_n C.1 C.2.1 hd rfl hl hn rfl (fun la' hl' => kk H locs la' hW hS (o_lvset (ls := x0 :: x1 :: w :: ls) (v := og z) hl'))
theorem r_aas2 (C : oCx p s m args meth c G b own cc nL) {x0 x1 : Option oV} {w : Option oV} {z : Nat} (hd : decode cc pc = .ok (.astore_n 2, 1)) (hq : pc + 1 = q) (hn : 2 < nL) (kk : oW p l e R s m args below meth c G b nL k n Q T σ q (x0 :: x1 :: some (oa z) :: ls) st) : oW p l e R s m args below meth c G b nL k n Q T σ pc (x0 :: x1 :: w :: ls) (oa z :: st) := by
  intro H locs la hW hS hl
  subst hq
  exact lv_astore_n C.1 C.2.1 hd rfl hl hn rfl (fun la' hl' => kk H locs la' hW hS (o_lvset (ls := x0 :: x1 :: w :: ls) (v := oa z) hl'))
theorem r_fs2 (C : oCx p s m args meth c G b own cc nL) {x0 x1 : Option oV} {w : Option oV} {z : UInt32} (hd : decode cc pc = .ok (.fstore_n 2, 1)) (hq : pc + 1 = q) (hn : 2 < nL) (kk : oW p l e R s m args below meth c G b nL k n Q T σ q (x0 :: x1 :: some (ofl z) :: ls) st) : oW p l e R s m args below meth c G b nL k n Q T σ pc (x0 :: x1 :: w :: ls) (ofl z :: st) := by
  intro H locs la hW hS hl
  subst hq
  exact lv_fstore_n C.1 C.2.1 hd rfl hl hn rfl (fun la' hl' => kk H locs la' hW hS (o_lvset (ls := x0 :: x1 :: w :: ls) (v := ofl z) hl'))
theorem r_iinc2 (C : oCx p s m args meth c G b own cc nL) {x0 x1 : Option oV} {z d : Int} (hd : decode cc pc = .ok (.iinc 2 d, 3)) (hq : pc + 3 = q) (hn : 2 < nL) (kk : oW p l e R s m args below meth c G b nL k n Q T σ q (x0 :: x1 :: some (oi (z + d)) :: ls) st) : oW p l e R s m args below meth c G b nL k n Q T σ pc (x0 :: x1 :: some (oi z) :: ls) st := by
  intro H locs la hW hS hl
  subst hq
  obtain ⟨k', hk'⟩ := List.getElem?_of_mem (o_lv_mem (b := b) (i := 0) (ls := x0 :: x1 :: some (oi z) :: ls) (k := 2) (v := oi z) rfl)
  exact lv_iinc (v := Int32.ofInt (z + d)) C.1 C.2.1 hd hl (k := k') (i := 2) (x := Int32.ofInt z) hk' (Int32.ofInt_add z d).symm hn rfl (fun la' hl' => kk H locs la' hW hS (o_lvset (ls := x0 :: x1 :: some (oi z) :: ls) (v := oi (z + d)) hl'))
theorem r_il3 (C : oCx p s m args meth c G b own cc nL) {x0 x1 x2 : Option oV} {z : Int} (hd : decode cc pc = .ok (.iload_n 3, 1)) (hq : pc + 1 = q) (kk : oW p l e R s m args below meth c G b nL k n Q T σ q (x0 :: x1 :: x2 :: some (oi z) :: ls) (oi z :: st)) : oW p l e R s m args below meth c G b nL k n Q T σ pc (x0 :: x1 :: x2 :: some (oi z) :: ls) st := by
  intro H locs la hW hS hl
  subst hq
  exact lv_iload_n C.1 C.2.1 hd rfl (o_lvat hl (k := 3) (v := oi z) rfl) (kk H locs la hW hS hl)
theorem r_al3 (C : oCx p s m args meth c G b own cc nL) {x0 x1 x2 : Option oV} {z : Nat} (hd : decode cc pc = .ok (.aload_n 3, 1)) (hq : pc + 1 = q) (kk : oW p l e R s m args below meth c G b nL k n Q T σ q (x0 :: x1 :: x2 :: some (og z) :: ls) (og z :: st)) : oW p l e R s m args below meth c G b nL k n Q T σ pc (x0 :: x1 :: x2 :: some (og z) :: ls) st := by
  intro H locs la hW hS hl
  subst hq
  exact lv_aload_n C.1 C.2.1 hd rfl (o_lvat hl (k := 3) (v := og z) rfl) (kk H locs la hW hS hl)
theorem r_aal3 (C : oCx p s m args meth c G b own cc nL) {x0 x1 x2 : Option oV} {z : Nat} (hd : decode cc pc = .ok (.aload_n 3, 1)) (hq : pc + 1 = q) (kk : oW p l e R s m args below meth c G b nL k n Q T σ q (x0 :: x1 :: x2 :: some (oa z) :: ls) (oa z :: st)) : oW p l e R s m args below meth c G b nL k n Q T σ pc (x0 :: x1 :: x2 :: some (oa z) :: ls) st := by
  intro H locs la hW hS hl
  subst hq
  exact lv_aload_n C.1 C.2.1 hd rfl (o_lvat hl (k := 3) (v := oa z) rfl) (kk H locs la hW hS hl)
theorem r_fl3 (C : oCx p s m args meth c G b own cc nL) {x0 x1 x2 : Option oV} {z : UInt32} (hd : decode cc pc = .ok (.fload_n 3, 1)) (hq : pc + 1 = q) (kk : oW p l e R s m args below meth c G b nL k n Q T σ q (x0 :: x1 :: x2 :: some (ofl z) :: ls) (ofl z :: st)) : oW p l e R s m args below meth c G b nL k n Q T σ pc (x0 :: x1 :: x2 :: some (ofl z) :: ls) st := by
  intro H locs la hW hS hl
  subst hq
  exact lv_fload_n C.1 C.2.1 hd rfl (o_lvat hl (k := 3) (v := ofl z) rfl) (kk H locs la hW hS hl)
theorem r_is3 (C : oCx p s m args meth c G b own cc nL) {x0 x1 x2 : Option oV} {w : Option oV} {z : Int} (hd : decode cc pc = .ok (.istore_n 3, 1)) (hq : pc + 1 = q) (hn : 3 < nL) (kk : oW p l e R s m args below meth c G b nL k n Q T σ q (x0 :: x1 :: x2 :: some (oi z) :: ls) st) : oW p l e R s m args below meth c G b nL k n Q T σ pc (x0 :: x1 :: x2 :: w :: ls) (oi z :: st) := by
  intro H locs la hW hS hl
  subst hq
  exact lv_istore_n C.1 C.2.1 hd rfl hl hn rfl (fun la' hl' => kk H locs la' hW hS (o_lvset (ls := x0 :: x1 :: x2 :: w :: ls) (v := oi z) hl'))
theorem r_as3 (C : oCx p s m args meth c G b own cc nL) {x0 x1 x2 : Option oV} {w : Option oV} {z : Nat} (hd : decode cc pc = .ok (.astore_n 3, 1)) (hq : pc + 1 = q) (hn : 3 < nL) (kk : oW p l e R s m args below meth c G b nL k n Q T σ q (x0 :: x1 :: x2 :: some (og z) :: ls) st) : oW p l e R s m args below meth c G b nL k n Q T σ pc (x0 :: x1 :: x2 :: w :: ls) (og z :: st) := by
  intro H locs la hW hS hl
  subst hq
  exact lv_astore_n C.1 C.2.1 hd rfl hl hn rfl (fun la' hl' => kk H locs la' hW hS (o_lvset (ls := x0 :: x1 :: x2 :: w :: ls) (v := og z) hl'))
theorem r_aas3 (C : oCx p s m args meth c G b own cc nL) {x0 x1 x2 : Option oV} {w : Option oV} {z : Nat} (hd : decode cc pc = .ok (.astore_n 3, 1)) (hq : pc + 1 = q) (hn : 3 < nL) (kk : oW p l e R s m args below meth c G b nL k n Q T σ q (x0 :: x1 :: x2 :: some (oa z) :: ls) st) : oW p l e R s m args below meth c G b nL k n Q T σ pc (x0 :: x1 :: x2 :: w :: ls) (oa z :: st) := by
  intro H locs la hW hS hl
  subst hq
  exact lv_astore_n C.1 C.2.1 hd rfl hl hn rfl (fun la' hl' => kk H locs la' hW hS (o_lvset (ls := x0 :: x1 :: x2 :: w :: ls) (v := oa z) hl'))
theorem r_fs3 (C : oCx p s m args meth c G b own cc nL) {x0 x1 x2 : Option oV} {w : Option oV} {z : UInt32} (hd : decode cc pc = .ok (.fstore_n 3, 1)) (hq : pc + 1 = q) (hn : 3 < nL) (kk : oW p l e R s m args below meth c G b nL k n Q T σ q (x0 :: x1 :: x2 :: some (ofl z) :: ls) st) : oW p l e R s m args below meth c G b nL k n Q T σ pc (x0 :: x1 :: x2 :: w :: ls) (ofl z :: st) := by
  intro H locs la hW hS hl
  subst hq
  exact lv_fstore_n C.1 C.2.1 hd rfl hl hn rfl (fun la' hl' => kk H locs la' hW hS (o_lvset (ls := x0 :: x1 :: x2 :: w :: ls) (v := ofl z) hl'))
theorem r_iinc3 (C : oCx p s m args meth c G b own cc nL) {x0 x1 x2 : Option oV} {z d : Int} (hd : decode cc pc = .ok (.iinc 3 d, 3)) (hq : pc + 3 = q) (hn : 3 < nL) (kk : oW p l e R s m args below meth c G b nL k n Q T σ q (x0 :: x1 :: x2 :: some (oi (z + d)) :: ls) st) : oW p l e R s m args below meth c G b nL k n Q T σ pc (x0 :: x1 :: x2 :: some (oi z) :: ls) st := by
  intro H locs la hW hS hl
  subst hq
  obtain ⟨k', hk'⟩ := List.getElem?_of_mem (o_lv_mem (b := b) (i := 0) (ls := x0 :: x1 :: x2 :: some (oi z) :: ls) (k := 3) (v := oi z) rfl)
  exact lv_iinc (v := Int32.ofInt (z + d)) C.1 C.2.1 hd hl (k := k') (i := 3) (x := Int32.ofInt z) hk' (Int32.ofInt_add z d).symm hn rfl (fun la' hl' => kk H locs la' hW hS (o_lvset (ls := x0 :: x1 :: x2 :: some (oi z) :: ls) (v := oi (z + d)) hl'))
theorem r_il4 (C : oCx p s m args meth c G b own cc nL) {x0 x1 x2 x3 : Option oV} {z : Int} (hd : decode cc pc = .ok (.iload 4, 2)) (hq : pc + 2 = q) (kk : oW p l e R s m args below meth c G b nL k n Q T σ q (x0 :: x1 :: x2 :: x3 :: some (oi z) :: ls) (oi z :: st)) : oW p l e R s m args below meth c G b nL k n Q T σ pc (x0 :: x1 :: x2 :: x3 :: some (oi z) :: ls) st := by
  intro H locs la hW hS hl
  subst hq
  exact lv_iload C.1 C.2.1 hd (o_lvat hl (k := 4) (v := oi z) rfl) (kk H locs la hW hS hl)
theorem r_al4 (C : oCx p s m args meth c G b own cc nL) {x0 x1 x2 x3 : Option oV} {z : Nat} (hd : decode cc pc = .ok (.aload 4, 2)) (hq : pc + 2 = q) (kk : oW p l e R s m args below meth c G b nL k n Q T σ q (x0 :: x1 :: x2 :: x3 :: some (og z) :: ls) (og z :: st)) : oW p l e R s m args below meth c G b nL k n Q T σ pc (x0 :: x1 :: x2 :: x3 :: some (og z) :: ls) st := by
  intro H locs la hW hS hl
  subst hq
  exact lv_aload C.1 C.2.1 hd (o_lvat hl (k := 4) (v := og z) rfl) (kk H locs la hW hS hl)
theorem r_aal4 (C : oCx p s m args meth c G b own cc nL) {x0 x1 x2 x3 : Option oV} {z : Nat} (hd : decode cc pc = .ok (.aload 4, 2)) (hq : pc + 2 = q) (kk : oW p l e R s m args below meth c G b nL k n Q T σ q (x0 :: x1 :: x2 :: x3 :: some (oa z) :: ls) (oa z :: st)) : oW p l e R s m args below meth c G b nL k n Q T σ pc (x0 :: x1 :: x2 :: x3 :: some (oa z) :: ls) st := by
  intro H locs la hW hS hl
  subst hq
  exact lv_aload C.1 C.2.1 hd (o_lvat hl (k := 4) (v := oa z) rfl) (kk H locs la hW hS hl)
theorem r_fl4 (C : oCx p s m args meth c G b own cc nL) {x0 x1 x2 x3 : Option oV} {z : UInt32} (hd : decode cc pc = .ok (.fload 4, 2)) (hq : pc + 2 = q) (kk : oW p l e R s m args below meth c G b nL k n Q T σ q (x0 :: x1 :: x2 :: x3 :: some (ofl z) :: ls) (ofl z :: st)) : oW p l e R s m args below meth c G b nL k n Q T σ pc (x0 :: x1 :: x2 :: x3 :: some (ofl z) :: ls) st := by
  intro H locs la hW hS hl
  subst hq
  exact lv_fload C.1 C.2.1 hd (o_lvat hl (k := 4) (v := ofl z) rfl) (kk H locs la hW hS hl)
theorem r_is4 (C : oCx p s m args meth c G b own cc nL) {x0 x1 x2 x3 : Option oV} {w : Option oV} {z : Int} (hd : decode cc pc = .ok (.istore 4, 2)) (hq : pc + 2 = q) (hn : 4 < nL) (kk : oW p l e R s m args below meth c G b nL k n Q T σ q (x0 :: x1 :: x2 :: x3 :: some (oi z) :: ls) st) : oW p l e R s m args below meth c G b nL k n Q T σ pc (x0 :: x1 :: x2 :: x3 :: w :: ls) (oi z :: st) := by
  intro H locs la hW hS hl
  subst hq
  exact lv_istore C.1 C.2.1 hd hl hn rfl (fun la' hl' => kk H locs la' hW hS (o_lvset (ls := x0 :: x1 :: x2 :: x3 :: w :: ls) (v := oi z) hl'))
theorem r_as4 (C : oCx p s m args meth c G b own cc nL) {x0 x1 x2 x3 : Option oV} {w : Option oV} {z : Nat} (hd : decode cc pc = .ok (.astore 4, 2)) (hq : pc + 2 = q) (hn : 4 < nL) (kk : oW p l e R s m args below meth c G b nL k n Q T σ q (x0 :: x1 :: x2 :: x3 :: some (og z) :: ls) st) : oW p l e R s m args below meth c G b nL k n Q T σ pc (x0 :: x1 :: x2 :: x3 :: w :: ls) (og z :: st) := by
  intro H locs la hW hS hl
  subst hq
  exact lv_astore C.1 C.2.1 hd hl hn rfl (fun la' hl' => kk H locs la' hW hS (o_lvset (ls := x0 :: x1 :: x2 :: x3 :: w :: ls) (v := og z) hl'))
theorem r_aas4 (C : oCx p s m args meth c G b own cc nL) {x0 x1 x2 x3 : Option oV} {w : Option oV} {z : Nat} (hd : decode cc pc = .ok (.astore 4, 2)) (hq : pc + 2 = q) (hn : 4 < nL) (kk : oW p l e R s m args below meth c G b nL k n Q T σ q (x0 :: x1 :: x2 :: x3 :: some (oa z) :: ls) st) : oW p l e R s m args below meth c G b nL k n Q T σ pc (x0 :: x1 :: x2 :: x3 :: w :: ls) (oa z :: st) := by
  intro H locs la hW hS hl
  subst hq
  exact lv_astore C.1 C.2.1 hd hl hn rfl (fun la' hl' => kk H locs la' hW hS (o_lvset (ls := x0 :: x1 :: x2 :: x3 :: w :: ls) (v := oa z) hl'))
theorem r_fs4 (C : oCx p s m args meth c G b own cc nL) {x0 x1 x2 x3 : Option oV} {w : Option oV} {z : UInt32} (hd : decode cc pc = .ok (.fstore 4, 2)) (hq : pc + 2 = q) (hn : 4 < nL) (kk : oW p l e R s m args below meth c G b nL k n Q T σ q (x0 :: x1 :: x2 :: x3 :: some (ofl z) :: ls) st) : oW p l e R s m args below meth c G b nL k n Q T σ pc (x0 :: x1 :: x2 :: x3 :: w :: ls) (ofl z :: st) := by
  intro H locs la hW hS hl
  subst hq
  exact lv_fstore C.1 C.2.1 hd hl hn rfl (fun la' hl' => kk H locs la' hW hS (o_lvset (ls := x0 :: x1 :: x2 :: x3 :: w :: ls) (v := ofl z) hl'))
theorem r_iinc4 (C : oCx p s m args meth c G b own cc nL) {x0 x1 x2 x3 : Option oV} {z d : Int} (hd : decode cc pc = .ok (.iinc 4 d, 3)) (hq : pc + 3 = q) (hn : 4 < nL) (kk : oW p l e R s m args below meth c G b nL k n Q T σ q (x0 :: x1 :: x2 :: x3 :: some (oi (z + d)) :: ls) st) : oW p l e R s m args below meth c G b nL k n Q T σ pc (x0 :: x1 :: x2 :: x3 :: some (oi z) :: ls) st := by
  intro H locs la hW hS hl
  subst hq
  obtain ⟨k', hk'⟩ := List.getElem?_of_mem (o_lv_mem (b := b) (i := 0) (ls := x0 :: x1 :: x2 :: x3 :: some (oi z) :: ls) (k := 4) (v := oi z) rfl)
  exact lv_iinc (v := Int32.ofInt (z + d)) C.1 C.2.1 hd hl (k := k') (i := 4) (x := Int32.ofInt z) hk' (Int32.ofInt_add z d).symm hn rfl (fun la' hl' => kk H locs la' hW hS (o_lvset (ls := x0 :: x1 :: x2 :: x3 :: some (oi z) :: ls) (v := oi (z + d)) hl'))
theorem r_il5 (C : oCx p s m args meth c G b own cc nL) {x0 x1 x2 x3 x4 : Option oV} {z : Int} (hd : decode cc pc = .ok (.iload 5, 2)) (hq : pc + 2 = q) (kk : oW p l e R s m args below meth c G b nL k n Q T σ q (x0 :: x1 :: x2 :: x3 :: x4 :: some (oi z) :: ls) (oi z :: st)) : oW p l e R s m args below meth c G b nL k n Q T σ pc (x0 :: x1 :: x2 :: x3 :: x4 :: some (oi z) :: ls) st := by
  intro H locs la hW hS hl
  subst hq
  exact lv_iload C.1 C.2.1 hd (o_lvat hl (k := 5) (v := oi z) rfl) (kk H locs la hW hS hl)
theorem r_al5 (C : oCx p s m args meth c G b own cc nL) {x0 x1 x2 x3 x4 : Option oV} {z : Nat} (hd : decode cc pc = .ok (.aload 5, 2)) (hq : pc + 2 = q) (kk : oW p l e R s m args below meth c G b nL k n Q T σ q (x0 :: x1 :: x2 :: x3 :: x4 :: some (og z) :: ls) (og z :: st)) : oW p l e R s m args below meth c G b nL k n Q T σ pc (x0 :: x1 :: x2 :: x3 :: x4 :: some (og z) :: ls) st := by
  intro H locs la hW hS hl
  subst hq
  exact lv_aload C.1 C.2.1 hd (o_lvat hl (k := 5) (v := og z) rfl) (kk H locs la hW hS hl)
theorem r_aal5 (C : oCx p s m args meth c G b own cc nL) {x0 x1 x2 x3 x4 : Option oV} {z : Nat} (hd : decode cc pc = .ok (.aload 5, 2)) (hq : pc + 2 = q) (kk : oW p l e R s m args below meth c G b nL k n Q T σ q (x0 :: x1 :: x2 :: x3 :: x4 :: some (oa z) :: ls) (oa z :: st)) : oW p l e R s m args below meth c G b nL k n Q T σ pc (x0 :: x1 :: x2 :: x3 :: x4 :: some (oa z) :: ls) st := by
  intro H locs la hW hS hl
  subst hq
  exact lv_aload C.1 C.2.1 hd (o_lvat hl (k := 5) (v := oa z) rfl) (kk H locs la hW hS hl)
theorem r_fl5 (C : oCx p s m args meth c G b own cc nL) {x0 x1 x2 x3 x4 : Option oV} {z : UInt32} (hd : decode cc pc = .ok (.fload 5, 2)) (hq : pc + 2 = q) (kk : oW p l e R s m args below meth c G b nL k n Q T σ q (x0 :: x1 :: x2 :: x3 :: x4 :: some (ofl z) :: ls) (ofl z :: st)) : oW p l e R s m args below meth c G b nL k n Q T σ pc (x0 :: x1 :: x2 :: x3 :: x4 :: some (ofl z) :: ls) st := by
  intro H locs la hW hS hl
  subst hq
  exact lv_fload C.1 C.2.1 hd (o_lvat hl (k := 5) (v := ofl z) rfl) (kk H locs la hW hS hl)
theorem r_is5 (C : oCx p s m args meth c G b own cc nL) {x0 x1 x2 x3 x4 : Option oV} {w : Option oV} {z : Int} (hd : decode cc pc = .ok (.istore 5, 2)) (hq : pc + 2 = q) (hn : 5 < nL) (kk : oW p l e R s m args below meth c G b nL k n Q T σ q (x0 :: x1 :: x2 :: x3 :: x4 :: some (oi z) :: ls) st) : oW p l e R s m args below meth c G b nL k n Q T σ pc (x0 :: x1 :: x2 :: x3 :: x4 :: w :: ls) (oi z :: st) := by
  intro H locs la hW hS hl
  subst hq
  exact lv_istore C.1 C.2.1 hd hl hn rfl (fun la' hl' => kk H locs la' hW hS (o_lvset (ls := x0 :: x1 :: x2 :: x3 :: x4 :: w :: ls) (v := oi z) hl'))
theorem r_as5 (C : oCx p s m args meth c G b own cc nL) {x0 x1 x2 x3 x4 : Option oV} {w : Option oV} {z : Nat} (hd : decode cc pc = .ok (.astore 5, 2)) (hq : pc + 2 = q) (hn : 5 < nL) (kk : oW p l e R s m args below meth c G b nL k n Q T σ q (x0 :: x1 :: x2 :: x3 :: x4 :: some (og z) :: ls) st) : oW p l e R s m args below meth c G b nL k n Q T σ pc (x0 :: x1 :: x2 :: x3 :: x4 :: w :: ls) (og z :: st) := by
  intro H locs la hW hS hl
  subst hq
  exact lv_astore C.1 C.2.1 hd hl hn rfl (fun la' hl' => kk H locs la' hW hS (o_lvset (ls := x0 :: x1 :: x2 :: x3 :: x4 :: w :: ls) (v := og z) hl'))
theorem r_aas5 (C : oCx p s m args meth c G b own cc nL) {x0 x1 x2 x3 x4 : Option oV} {w : Option oV} {z : Nat} (hd : decode cc pc = .ok (.astore 5, 2)) (hq : pc + 2 = q) (hn : 5 < nL) (kk : oW p l e R s m args below meth c G b nL k n Q T σ q (x0 :: x1 :: x2 :: x3 :: x4 :: some (oa z) :: ls) st) : oW p l e R s m args below meth c G b nL k n Q T σ pc (x0 :: x1 :: x2 :: x3 :: x4 :: w :: ls) (oa z :: st) := by
  intro H locs la hW hS hl
  subst hq
  exact lv_astore C.1 C.2.1 hd hl hn rfl (fun la' hl' => kk H locs la' hW hS (o_lvset (ls := x0 :: x1 :: x2 :: x3 :: x4 :: w :: ls) (v := oa z) hl'))
theorem r_fs5 (C : oCx p s m args meth c G b own cc nL) {x0 x1 x2 x3 x4 : Option oV} {w : Option oV} {z : UInt32} (hd : decode cc pc = .ok (.fstore 5, 2)) (hq : pc + 2 = q) (hn : 5 < nL) (kk : oW p l e R s m args below meth c G b nL k n Q T σ q (x0 :: x1 :: x2 :: x3 :: x4 :: some (ofl z) :: ls) st) : oW p l e R s m args below meth c G b nL k n Q T σ pc (x0 :: x1 :: x2 :: x3 :: x4 :: w :: ls) (ofl z :: st) := by
  intro H locs la hW hS hl
  subst hq
  exact lv_fstore C.1 C.2.1 hd hl hn rfl (fun la' hl' => kk H locs la' hW hS (o_lvset (ls := x0 :: x1 :: x2 :: x3 :: x4 :: w :: ls) (v := ofl z) hl'))
theorem r_iinc5 (C : oCx p s m args meth c G b own cc nL) {x0 x1 x2 x3 x4 : Option oV} {z d : Int} (hd : decode cc pc = .ok (.iinc 5 d, 3)) (hq : pc + 3 = q) (hn : 5 < nL) (kk : oW p l e R s m args below meth c G b nL k n Q T σ q (x0 :: x1 :: x2 :: x3 :: x4 :: some (oi (z + d)) :: ls) st) : oW p l e R s m args below meth c G b nL k n Q T σ pc (x0 :: x1 :: x2 :: x3 :: x4 :: some (oi z) :: ls) st := by
  intro H locs la hW hS hl
  subst hq
  obtain ⟨k', hk'⟩ := List.getElem?_of_mem (o_lv_mem (b := b) (i := 0) (ls := x0 :: x1 :: x2 :: x3 :: x4 :: some (oi z) :: ls) (k := 5) (v := oi z) rfl)
  exact lv_iinc (v := Int32.ofInt (z + d)) C.1 C.2.1 hd hl (k := k') (i := 5) (x := Int32.ofInt z) hk' (Int32.ofInt_add z d).symm hn rfl (fun la' hl' => kk H locs la' hW hS (o_lvset (ls := x0 :: x1 :: x2 :: x3 :: x4 :: some (oi z) :: ls) (v := oi (z + d)) hl'))
theorem r_il6 (C : oCx p s m args meth c G b own cc nL) {x0 x1 x2 x3 x4 x5 : Option oV} {z : Int} (hd : decode cc pc = .ok (.iload 6, 2)) (hq : pc + 2 = q) (kk : oW p l e R s m args below meth c G b nL k n Q T σ q (x0 :: x1 :: x2 :: x3 :: x4 :: x5 :: some (oi z) :: ls) (oi z :: st)) : oW p l e R s m args below meth c G b nL k n Q T σ pc (x0 :: x1 :: x2 :: x3 :: x4 :: x5 :: some (oi z) :: ls) st := by
  intro H locs la hW hS hl
  subst hq
  exact lv_iload C.1 C.2.1 hd (o_lvat hl (k := 6) (v := oi z) rfl) (kk H locs la hW hS hl)
theorem r_al6 (C : oCx p s m args meth c G b own cc nL) {x0 x1 x2 x3 x4 x5 : Option oV} {z : Nat} (hd : decode cc pc = .ok (.aload 6, 2)) (hq : pc + 2 = q) (kk : oW p l e R s m args below meth c G b nL k n Q T σ q (x0 :: x1 :: x2 :: x3 :: x4 :: x5 :: some (og z) :: ls) (og z :: st)) : oW p l e R s m args below meth c G b nL k n Q T σ pc (x0 :: x1 :: x2 :: x3 :: x4 :: x5 :: some (og z) :: ls) st := by
  intro H locs la hW hS hl
  subst hq
  exact lv_aload C.1 C.2.1 hd (o_lvat hl (k := 6) (v := og z) rfl) (kk H locs la hW hS hl)
theorem r_aal6 (C : oCx p s m args meth c G b own cc nL) {x0 x1 x2 x3 x4 x5 : Option oV} {z : Nat} (hd : decode cc pc = .ok (.aload 6, 2)) (hq : pc + 2 = q) (kk : oW p l e R s m args below meth c G b nL k n Q T σ q (x0 :: x1 :: x2 :: x3 :: x4 :: x5 :: some (oa z) :: ls) (oa z :: st)) : oW p l e R s m args below meth c G b nL k n Q T σ pc (x0 :: x1 :: x2 :: x3 :: x4 :: x5 :: some (oa z) :: ls) st := by
  intro H locs la hW hS hl
  subst hq
  exact lv_aload C.1 C.2.1 hd (o_lvat hl (k := 6) (v := oa z) rfl) (kk H locs la hW hS hl)
theorem r_fl6 (C : oCx p s m args meth c G b own cc nL) {x0 x1 x2 x3 x4 x5 : Option oV} {z : UInt32} (hd : decode cc pc = .ok (.fload 6, 2)) (hq : pc + 2 = q) (kk : oW p l e R s m args below meth c G b nL k n Q T σ q (x0 :: x1 :: x2 :: x3 :: x4 :: x5 :: some (ofl z) :: ls) (ofl z :: st)) : oW p l e R s m args below meth c G b nL k n Q T σ pc (x0 :: x1 :: x2 :: x3 :: x4 :: x5 :: some (ofl z) :: ls) st := by
  intro H locs la hW hS hl
  subst hq
  exact lv_fload C.1 C.2.1 hd (o_lvat hl (k := 6) (v := ofl z) rfl) (kk H locs la hW hS hl)
theorem r_is6 (C : oCx p s m args meth c G b own cc nL) {x0 x1 x2 x3 x4 x5 : Option oV} {w : Option oV} {z : Int} (hd : decode cc pc = .ok (.istore 6, 2)) (hq : pc + 2 = q) (hn : 6 < nL) (kk : oW p l e R s m args below meth c G b nL k n Q T σ q (x0 :: x1 :: x2 :: x3 :: x4 :: x5 :: some (oi z) :: ls) st) : oW p l e R s m args below meth c G b nL k n Q T σ pc (x0 :: x1 :: x2 :: x3 :: x4 :: x5 :: w :: ls) (oi z :: st) := by
  intro H locs la hW hS hl
  subst hq
  exact lv_istore C.1 C.2.1 hd hl hn rfl (fun la' hl' => kk H locs la' hW hS (o_lvset (ls := x0 :: x1 :: x2 :: x3 :: x4 :: x5 :: w :: ls) (v := oi z) hl'))
theorem r_as6 (C : oCx p s m args meth c G b own cc nL) {x0 x1 x2 x3 x4 x5 : Option oV} {w : Option oV} {z : Nat} (hd : decode cc pc = .ok (.astore 6, 2)) (hq : pc + 2 = q) (hn : 6 < nL) (kk : oW p l e R s m args below meth c G b nL k n Q T σ q (x0 :: x1 :: x2 :: x3 :: x4 :: x5 :: some (og z) :: ls) st) : oW p l e R s m args below meth c G b nL k n Q T σ pc (x0 :: x1 :: x2 :: x3 :: x4 :: x5 :: w :: ls) (og z :: st) := by
  intro H locs la hW hS hl
  subst hq
  exact lv_astore C.1 C.2.1 hd hl hn rfl (fun la' hl' => kk H locs la' hW hS (o_lvset (ls := x0 :: x1 :: x2 :: x3 :: x4 :: x5 :: w :: ls) (v := og z) hl'))
theorem r_aas6 (C : oCx p s m args meth c G b own cc nL) {x0 x1 x2 x3 x4 x5 : Option oV} {w : Option oV} {z : Nat} (hd : decode cc pc = .ok (.astore 6, 2)) (hq : pc + 2 = q) (hn : 6 < nL) (kk : oW p l e R s m args below meth c G b nL k n Q T σ q (x0 :: x1 :: x2 :: x3 :: x4 :: x5 :: some (oa z) :: ls) st) : oW p l e R s m args below meth c G b nL k n Q T σ pc (x0 :: x1 :: x2 :: x3 :: x4 :: x5 :: w :: ls) (oa z :: st) := by
  intro H locs la hW hS hl
  subst hq
  exact lv_astore C.1 C.2.1 hd hl hn rfl (fun la' hl' => kk H locs la' hW hS (o_lvset (ls := x0 :: x1 :: x2 :: x3 :: x4 :: x5 :: w :: ls) (v := oa z) hl'))
theorem r_fs6 (C : oCx p s m args meth c G b own cc nL) {x0 x1 x2 x3 x4 x5 : Option oV} {w : Option oV} {z : UInt32} (hd : decode cc pc = .ok (.fstore 6, 2)) (hq : pc + 2 = q) (hn : 6 < nL) (kk : oW p l e R s m args below meth c G b nL k n Q T σ q (x0 :: x1 :: x2 :: x3 :: x4 :: x5 :: some (ofl z) :: ls) st) : oW p l e R s m args below meth c G b nL k n Q T σ pc (x0 :: x1 :: x2 :: x3 :: x4 :: x5 :: w :: ls) (ofl z :: st) := by
  intro H locs la hW hS hl
  subst hq
  exact lv_fstore C.1 C.2.1 hd hl hn rfl (fun la' hl' => kk H locs la' hW hS (o_lvset (ls := x0 :: x1 :: x2 :: x3 :: x4 :: x5 :: w :: ls) (v := ofl z) hl'))
theorem r_iinc6 (C : oCx p s m args meth c G b own cc nL) {x0 x1 x2 x3 x4 x5 : Option oV} {z d : Int} (hd : decode cc pc = .ok (.iinc 6 d, 3)) (hq : pc + 3 = q) (hn : 6 < nL) (kk : oW p l e R s m args below meth c G b nL k n Q T σ q (x0 :: x1 :: x2 :: x3 :: x4 :: x5 :: some (oi (z + d)) :: ls) st) : oW p l e R s m args below meth c G b nL k n Q T σ pc (x0 :: x1 :: x2 :: x3 :: x4 :: x5 :: some (oi z) :: ls) st := by
  intro H locs la hW hS hl
  subst hq
  obtain ⟨k', hk'⟩ := List.getElem?_of_mem (o_lv_mem (b := b) (i := 0) (ls := x0 :: x1 :: x2 :: x3 :: x4 :: x5 :: some (oi z) :: ls) (k := 6) (v := oi z) rfl)
  exact lv_iinc (v := Int32.ofInt (z + d)) C.1 C.2.1 hd hl (k := k') (i := 6) (x := Int32.ofInt z) hk' (Int32.ofInt_add z d).symm hn rfl (fun la' hl' => kk H locs la' hW hS (o_lvset (ls := x0 :: x1 :: x2 :: x3 :: x4 :: x5 :: some (oi z) :: ls) (v := oi (z + d)) hl'))
theorem r_il7 (C : oCx p s m args meth c G b own cc nL) {x0 x1 x2 x3 x4 x5 x6 : Option oV} {z : Int} (hd : decode cc pc = .ok (.iload 7, 2)) (hq : pc + 2 = q) (kk : oW p l e R s m args below meth c G b nL k n Q T σ q (x0 :: x1 :: x2 :: x3 :: x4 :: x5 :: x6 :: some (oi z) :: ls) (oi z :: st)) : oW p l e R s m args below meth c G b nL k n Q T σ pc (x0 :: x1 :: x2 :: x3 :: x4 :: x5 :: x6 :: some (oi z) :: ls) st := by
  intro H locs la hW hS hl
  subst hq
  exact lv_iload C.1 C.2.1 hd (o_lvat hl (k := 7) (v := oi z) rfl) (kk H locs la hW hS hl)
theorem r_al7 (C : oCx p s m args meth c G b own cc nL) {x0 x1 x2 x3 x4 x5 x6 : Option oV} {z : Nat} (hd : decode cc pc = .ok (.aload 7, 2)) (hq : pc + 2 = q) (kk : oW p l e R s m args below meth c G b nL k n Q T σ q (x0 :: x1 :: x2 :: x3 :: x4 :: x5 :: x6 :: some (og z) :: ls) (og z :: st)) : oW p l e R s m args below meth c G b nL k n Q T σ pc (x0 :: x1 :: x2 :: x3 :: x4 :: x5 :: x6 :: some (og z) :: ls) st := by
  intro H locs la hW hS hl
  subst hq
  exact lv_aload C.1 C.2.1 hd (o_lvat hl (k := 7) (v := og z) rfl) (kk H locs la hW hS hl)
theorem r_aal7 (C : oCx p s m args meth c G b own cc nL) {x0 x1 x2 x3 x4 x5 x6 : Option oV} {z : Nat} (hd : decode cc pc = .ok (.aload 7, 2)) (hq : pc + 2 = q) (kk : oW p l e R s m args below meth c G b nL k n Q T σ q (x0 :: x1 :: x2 :: x3 :: x4 :: x5 :: x6 :: some (oa z) :: ls) (oa z :: st)) : oW p l e R s m args below meth c G b nL k n Q T σ pc (x0 :: x1 :: x2 :: x3 :: x4 :: x5 :: x6 :: some (oa z) :: ls) st := by
  intro H locs la hW hS hl
  subst hq
  exact lv_aload C.1 C.2.1 hd (o_lvat hl (k := 7) (v := oa z) rfl) (kk H locs la hW hS hl)
theorem r_fl7 (C : oCx p s m args meth c G b own cc nL) {x0 x1 x2 x3 x4 x5 x6 : Option oV} {z : UInt32} (hd : decode cc pc = .ok (.fload 7, 2)) (hq : pc + 2 = q) (kk : oW p l e R s m args below meth c G b nL k n Q T σ q (x0 :: x1 :: x2 :: x3 :: x4 :: x5 :: x6 :: some (ofl z) :: ls) (ofl z :: st)) : oW p l e R s m args below meth c G b nL k n Q T σ pc (x0 :: x1 :: x2 :: x3 :: x4 :: x5 :: x6 :: some (ofl z) :: ls) st := by
  intro H locs la hW hS hl
  subst hq
  exact lv_fload C.1 C.2.1 hd (o_lvat hl (k := 7) (v := ofl z) rfl) (kk H locs la hW hS hl)
theorem r_is7 (C : oCx p s m args meth c G b own cc nL) {x0 x1 x2 x3 x4 x5 x6 : Option oV} {w : Option oV} {z : Int} (hd : decode cc pc = .ok (.istore 7, 2)) (hq : pc + 2 = q) (hn : 7 < nL) (kk : oW p l e R s m args below meth c G b nL k n Q T σ q (x0 :: x1 :: x2 :: x3 :: x4 :: x5 :: x6 :: some (oi z) :: ls) st) : oW p l e R s m args below meth c G b nL k n Q T σ pc (x0 :: x1 :: x2 :: x3 :: x4 :: x5 :: x6 :: w :: ls) (oi z :: st) := by
  intro H locs la hW hS hl
  subst hq
  exact lv_istore C.1 C.2.1 hd hl hn rfl (fun la' hl' => kk H locs la' hW hS (o_lvset (ls := x0 :: x1 :: x2 :: x3 :: x4 :: x5 :: x6 :: w :: ls) (v := oi z) hl'))
theorem r_as7 (C : oCx p s m args meth c G b own cc nL) {x0 x1 x2 x3 x4 x5 x6 : Option oV} {w : Option oV} {z : Nat} (hd : decode cc pc = .ok (.astore 7, 2)) (hq : pc + 2 = q) (hn : 7 < nL) (kk : oW p l e R s m args below meth c G b nL k n Q T σ q (x0 :: x1 :: x2 :: x3 :: x4 :: x5 :: x6 :: some (og z) :: ls) st) : oW p l e R s m args below meth c G b nL k n Q T σ pc (x0 :: x1 :: x2 :: x3 :: x4 :: x5 :: x6 :: w :: ls) (og z :: st) := by
  intro H locs la hW hS hl
  subst hq
  exact lv_astore C.1 C.2.1 hd hl hn rfl (fun la' hl' => kk H locs la' hW hS (o_lvset (ls := x0 :: x1 :: x2 :: x3 :: x4 :: x5 :: x6 :: w :: ls) (v := og z) hl'))
theorem r_aas7 (C : oCx p s m args meth c G b own cc nL) {x0 x1 x2 x3 x4 x5 x6 : Option oV} {w : Option oV} {z : Nat} (hd : decode cc pc = .ok (.astore 7, 2)) (hq : pc + 2 = q) (hn : 7 < nL) (kk : oW p l e R s m args below meth c G b nL k n Q T σ q (x0 :: x1 :: x2 :: x3 :: x4 :: x5 :: x6 :: some (oa z) :: ls) st) : oW p l e R s m args below meth c G b nL k n Q T σ pc (x0 :: x1 :: x2 :: x3 :: x4 :: x5 :: x6 :: w :: ls) (oa z :: st) := by
  intro H locs la hW hS hl
  subst hq
  exact lv_astore C.1 C.2.1 hd hl hn rfl (fun la' hl' => kk H locs la' hW hS (o_lvset (ls := x0 :: x1 :: x2 :: x3 :: x4 :: x5 :: x6 :: w :: ls) (v := oa z) hl'))
theorem r_fs7 (C : oCx p s m args meth c G b own cc nL) {x0 x1 x2 x3 x4 x5 x6 : Option oV} {w : Option oV} {z : UInt32} (hd : decode cc pc = .ok (.fstore 7, 2)) (hq : pc + 2 = q) (hn : 7 < nL) (kk : oW p l e R s m args below meth c G b nL k n Q T σ q (x0 :: x1 :: x2 :: x3 :: x4 :: x5 :: x6 :: some (ofl z) :: ls) st) : oW p l e R s m args below meth c G b nL k n Q T σ pc (x0 :: x1 :: x2 :: x3 :: x4 :: x5 :: x6 :: w :: ls) (ofl z :: st) := by
  intro H locs la hW hS hl
  subst hq
  exact lv_fstore C.1 C.2.1 hd hl hn rfl (fun la' hl' => kk H locs la' hW hS (o_lvset (ls := x0 :: x1 :: x2 :: x3 :: x4 :: x5 :: x6 :: w :: ls) (v := ofl z) hl'))
theorem r_iinc7 (C : oCx p s m args meth c G b own cc nL) {x0 x1 x2 x3 x4 x5 x6 : Option oV} {z d : Int} (hd : decode cc pc = .ok (.iinc 7 d, 3)) (hq : pc + 3 = q) (hn : 7 < nL) (kk : oW p l e R s m args below meth c G b nL k n Q T σ q (x0 :: x1 :: x2 :: x3 :: x4 :: x5 :: x6 :: some (oi (z + d)) :: ls) st) : oW p l e R s m args below meth c G b nL k n Q T σ pc (x0 :: x1 :: x2 :: x3 :: x4 :: x5 :: x6 :: some (oi z) :: ls) st := by
  intro H locs la hW hS hl
  subst hq
  obtain ⟨k', hk'⟩ := List.getElem?_of_mem (o_lv_mem (b := b) (i := 0) (ls := x0 :: x1 :: x2 :: x3 :: x4 :: x5 :: x6 :: some (oi z) :: ls) (k := 7) (v := oi z) rfl)
  exact lv_iinc (v := Int32.ofInt (z + d)) C.1 C.2.1 hd hl (k := k') (i := 7) (x := Int32.ofInt z) hk' (Int32.ofInt_add z d).symm hn rfl (fun la' hl' => kk H locs la' hW hS (o_lvset (ls := x0 :: x1 :: x2 :: x3 :: x4 :: x5 :: x6 :: some (oi z) :: ls) (v := oi (z + d)) hl'))
theorem r_il8 (C : oCx p s m args meth c G b own cc nL) {x0 x1 x2 x3 x4 x5 x6 x7 : Option oV} {z : Int} (hd : decode cc pc = .ok (.iload 8, 2)) (hq : pc + 2 = q) (kk : oW p l e R s m args below meth c G b nL k n Q T σ q (x0 :: x1 :: x2 :: x3 :: x4 :: x5 :: x6 :: x7 :: some (oi z) :: ls) (oi z :: st)) : oW p l e R s m args below meth c G b nL k n Q T σ pc (x0 :: x1 :: x2 :: x3 :: x4 :: x5 :: x6 :: x7 :: some (oi z) :: ls) st := by
  intro H locs la hW hS hl
  subst hq
  exact lv_iload C.1 C.2.1 hd (o_lvat hl (k := 8) (v := oi z) rfl) (kk H locs la hW hS hl)
theorem r_al8 (C : oCx p s m args meth c G b own cc nL) {x0 x1 x2 x3 x4 x5 x6 x7 : Option oV} {z : Nat} (hd : decode cc pc = .ok (.aload 8, 2)) (hq : pc + 2 = q) (kk : oW p l e R s m args below meth c G b nL k n Q T σ q (x0 :: x1 :: x2 :: x3 :: x4 :: x5 :: x6 :: x7 :: some (og z) :: ls) (og z :: st)) : oW p l e R s m args below meth c G b nL k n Q T σ pc (x0 :: x1 :: x2 :: x3 :: x4 :: x5 :: x6 :: x7 :: some (og z) :: ls) st := by
  intro H locs la hW hS hl
  subst hq
  exact lv_aload C.1 C.2.1 hd (o_lvat hl (k := 8) (v := og z) rfl) (kk H locs la hW hS hl)
theorem r_aal8 (C : oCx p s m args meth c G b own cc nL) {x0 x1 x2 x3 x4 x5 x6 x7 : Option oV} {z : Nat} (hd : decode cc pc = .ok (.aload 8, 2)) (hq : pc + 2 = q) (kk : oW p l e R s m args below meth c G b nL k n Q T σ q (x0 :: x1 :: x2 :: x3 :: x4 :: x5 :: x6 :: x7 :: some (oa z) :: ls) (oa z :: st)) : oW p l e R s m args below meth c G b nL k n Q T σ pc (x0 :: x1 :: x2 :: x3 :: x4 :: x5 :: x6 :: x7 :: some (oa z) :: ls) st := by
  intro H locs la hW hS hl
  subst hq
  exact lv_aload C.1 C.2.1 hd (o_lvat hl (k := 8) (v := oa z) rfl) (kk H locs la hW hS hl)
theorem r_fl8 (C : oCx p s m args meth c G b own cc nL) {x0 x1 x2 x3 x4 x5 x6 x7 : Option oV} {z : UInt32} (hd : decode cc pc = .ok (.fload 8, 2)) (hq : pc + 2 = q) (kk : oW p l e R s m args below meth c G b nL k n Q T σ q (x0 :: x1 :: x2 :: x3 :: x4 :: x5 :: x6 :: x7 :: some (ofl z) :: ls) (ofl z :: st)) : oW p l e R s m args below meth c G b nL k n Q T σ pc (x0 :: x1 :: x2 :: x3 :: x4 :: x5 :: x6 :: x7 :: some (ofl z) :: ls) st := by
  intro H locs la hW hS hl
  subst hq
  exact lv_fload C.1 C.2.1 hd (o_lvat hl (k := 8) (v := ofl z) rfl) (kk H locs la hW hS hl)
theorem r_is8 (C : oCx p s m args meth c G b own cc nL) {x0 x1 x2 x3 x4 x5 x6 x7 : Option oV} {w : Option oV} {z : Int} (hd : decode cc pc = .ok (.istore 8, 2)) (hq : pc + 2 = q) (hn : 8 < nL) (kk : oW p l e R s m args below meth c G b nL k n Q T σ q (x0 :: x1 :: x2 :: x3 :: x4 :: x5 :: x6 :: x7 :: some (oi z) :: ls) st) : oW p l e R s m args below meth c G b nL k n Q T σ pc (x0 :: x1 :: x2 :: x3 :: x4 :: x5 :: x6 :: x7 :: w :: ls) (oi z :: st) := by
  intro H locs la hW hS hl
  subst hq
  exact lv_istore C.1 C.2.1 hd hl hn rfl (fun la' hl' => kk H locs la' hW hS (o_lvset (ls := x0 :: x1 :: x2 :: x3 :: x4 :: x5 :: x6 :: x7 :: w :: ls) (v := oi z) hl'))
theorem r_as8 (C : oCx p s m args meth c G b own cc nL) {x0 x1 x2 x3 x4 x5 x6 x7 : Option oV} {w : Option oV} {z : Nat} (hd : decode cc pc = .ok (.astore 8, 2)) (hq : pc + 2 = q) (hn : 8 < nL) (kk : oW p l e R s m args below meth c G b nL k n Q T σ q (x0 :: x1 :: x2 :: x3 :: x4 :: x5 :: x6 :: x7 :: some (og z) :: ls) st) : oW p l e R s m args below meth c G b nL k n Q T σ pc (x0 :: x1 :: x2 :: x3 :: x4 :: x5 :: x6 :: x7 :: w :: ls) (og z :: st) := by
  intro H locs la hW hS hl
  subst hq
  exact lv_astore C.1 C.2.1 hd hl hn rfl (fun la' hl' => kk H locs la' hW hS (o_lvset (ls := x0 :: x1 :: x2 :: x3 :: x4 :: x5 :: x6 :: x7 :: w :: ls) (v := og z) hl'))
theorem r_aas8 (C : oCx p s m args meth c G b own cc nL) {x0 x1 x2 x3 x4 x5 x6 x7 : Option oV} {w : Option oV} {z : Nat} (hd : decode cc pc = .ok (.astore 8, 2)) (hq : pc + 2 = q) (hn : 8 < nL) (kk : oW p l e R s m args below meth c G b nL k n Q T σ q (x0 :: x1 :: x2 :: x3 :: x4 :: x5 :: x6 :: x7 :: some (oa z) :: ls) st) : oW p l e R s m args below meth c G b nL k n Q T σ pc (x0 :: x1 :: x2 :: x3 :: x4 :: x5 :: x6 :: x7 :: w :: ls) (oa z :: st) := by
  intro H locs la hW hS hl
  subst hq
  exact lv_astore C.1 C.2.1 hd hl hn rfl (fun la' hl' => kk H locs la' hW hS (o_lvset (ls := x0 :: x1 :: x2 :: x3 :: x4 :: x5 :: x6 :: x7 :: w :: ls) (v := oa z) hl'))
theorem r_fs8 (C : oCx p s m args meth c G b own cc nL) {x0 x1 x2 x3 x4 x5 x6 x7 : Option oV} {w : Option oV} {z : UInt32} (hd : decode cc pc = .ok (.fstore 8, 2)) (hq : pc + 2 = q) (hn : 8 < nL) (kk : oW p l e R s m args below meth c G b nL k n Q T σ q (x0 :: x1 :: x2 :: x3 :: x4 :: x5 :: x6 :: x7 :: some (ofl z) :: ls) st) : oW p l e R s m args below meth c G b nL k n Q T σ pc (x0 :: x1 :: x2 :: x3 :: x4 :: x5 :: x6 :: x7 :: w :: ls) (ofl z :: st) := by
  intro H locs la hW hS hl
  subst hq
  exact lv_fstore C.1 C.2.1 hd hl hn rfl (fun la' hl' => kk H locs la' hW hS (o_lvset (ls := x0 :: x1 :: x2 :: x3 :: x4 :: x5 :: x6 :: x7 :: w :: ls) (v := ofl z) hl'))
theorem r_iinc8 (C : oCx p s m args meth c G b own cc nL) {x0 x1 x2 x3 x4 x5 x6 x7 : Option oV} {z d : Int} (hd : decode cc pc = .ok (.iinc 8 d, 3)) (hq : pc + 3 = q) (hn : 8 < nL) (kk : oW p l e R s m args below meth c G b nL k n Q T σ q (x0 :: x1 :: x2 :: x3 :: x4 :: x5 :: x6 :: x7 :: some (oi (z + d)) :: ls) st) : oW p l e R s m args below meth c G b nL k n Q T σ pc (x0 :: x1 :: x2 :: x3 :: x4 :: x5 :: x6 :: x7 :: some (oi z) :: ls) st := by
  intro H locs la hW hS hl
  subst hq
  obtain ⟨k', hk'⟩ := List.getElem?_of_mem (o_lv_mem (b := b) (i := 0) (ls := x0 :: x1 :: x2 :: x3 :: x4 :: x5 :: x6 :: x7 :: some (oi z) :: ls) (k := 8) (v := oi z) rfl)
  exact lv_iinc (v := Int32.ofInt (z + d)) C.1 C.2.1 hd hl (k := k') (i := 8) (x := Int32.ofInt z) hk' (Int32.ofInt_add z d).symm hn rfl (fun la' hl' => kk H locs la' hW hS (o_lvset (ls := x0 :: x1 :: x2 :: x3 :: x4 :: x5 :: x6 :: x7 :: some (oi z) :: ls) (v := oi (z + d)) hl'))
theorem r_il9 (C : oCx p s m args meth c G b own cc nL) {x0 x1 x2 x3 x4 x5 x6 x7 x8 : Option oV} {z : Int} (hd : decode cc pc = .ok (.iload 9, 2)) (hq : pc + 2 = q) (kk : oW p l e R s m args below meth c G b nL k n Q T σ q (x0 :: x1 :: x2 :: x3 :: x4 :: x5 :: x6 :: x7 :: x8 :: some (oi z) :: ls) (oi z :: st)) : oW p l e R s m args below meth c G b nL k n Q T σ pc (x0 :: x1 :: x2 :: x3 :: x4 :: x5 :: x6 :: x7 :: x8 :: some (oi z) :: ls) st := by
  intro H locs la hW hS hl
  subst hq
  exact lv_iload C.1 C.2.1 hd (o_lvat hl (k := 9) (v := oi z) rfl) (kk H locs la hW hS hl)
theorem r_al9 (C : oCx p s m args meth c G b own cc nL) {x0 x1 x2 x3 x4 x5 x6 x7 x8 : Option oV} {z : Nat} (hd : decode cc pc = .ok (.aload 9, 2)) (hq : pc + 2 = q) (kk : oW p l e R s m args below meth c G b nL k n Q T σ q (x0 :: x1 :: x2 :: x3 :: x4 :: x5 :: x6 :: x7 :: x8 :: some (og z) :: ls) (og z :: st)) : oW p l e R s m args below meth c G b nL k n Q T σ pc (x0 :: x1 :: x2 :: x3 :: x4 :: x5 :: x6 :: x7 :: x8 :: some (og z) :: ls) st := by
  intro H locs la hW hS hl
  subst hq
  exact lv_aload C.1 C.2.1 hd (o_lvat hl (k := 9) (v := og z) rfl) (kk H locs la hW hS hl)
theorem r_aal9 (C : oCx p s m args meth c G b own cc nL) {x0 x1 x2 x3 x4 x5 x6 x7 x8 : Option oV} {z : Nat} (hd : decode cc pc = .ok (.aload 9, 2)) (hq : pc + 2 = q) (kk : oW p l e R s m args below meth c G b nL k n Q T σ q (x0 :: x1 :: x2 :: x3 :: x4 :: x5 :: x6 :: x7 :: x8 :: some (oa z) :: ls) (oa z :: st)) : oW p l e R s m args below meth c G b nL k n Q T σ pc (x0 :: x1 :: x2 :: x3 :: x4 :: x5 :: x6 :: x7 :: x8 :: some (oa z) :: ls) st := by
  intro H locs la hW hS hl
  subst hq
  exact lv_aload C.1 C.2.1 hd (o_lvat hl (k := 9) (v := oa z) rfl) (kk H locs la hW hS hl)
theorem r_fl9 (C : oCx p s m args meth c G b own cc nL) {x0 x1 x2 x3 x4 x5 x6 x7 x8 : Option oV} {z : UInt32} (hd : decode cc pc = .ok (.fload 9, 2)) (hq : pc + 2 = q) (kk : oW p l e R s m args below meth c G b nL k n Q T σ q (x0 :: x1 :: x2 :: x3 :: x4 :: x5 :: x6 :: x7 :: x8 :: some (ofl z) :: ls) (ofl z :: st)) : oW p l e R s m args below meth c G b nL k n Q T σ pc (x0 :: x1 :: x2 :: x3 :: x4 :: x5 :: x6 :: x7 :: x8 :: some (ofl z) :: ls) st := by
  intro H locs la hW hS hl
  subst hq
  exact lv_fload C.1 C.2.1 hd (o_lvat hl (k := 9) (v := ofl z) rfl) (kk H locs la hW hS hl)
theorem r_is9 (C : oCx p s m args meth c G b own cc nL) {x0 x1 x2 x3 x4 x5 x6 x7 x8 : Option oV} {w : Option oV} {z : Int} (hd : decode cc pc = .ok (.istore 9, 2)) (hq : pc + 2 = q) (hn : 9 < nL) (kk : oW p l e R s m args below meth c G b nL k n Q T σ q (x0 :: x1 :: x2 :: x3 :: x4 :: x5 :: x6 :: x7 :: x8 :: some (oi z) :: ls) st) : oW p l e R s m args below meth c G b nL k n Q T σ pc (x0 :: x1 :: x2 :: x3 :: x4 :: x5 :: x6 :: x7 :: x8 :: w :: ls) (oi z :: st) := by
  intro H locs la hW hS hl
  subst hq
  exact lv_istore C.1 C.2.1 hd hl hn rfl (fun la' hl' => kk H locs la' hW hS (o_lvset (ls := x0 :: x1 :: x2 :: x3 :: x4 :: x5 :: x6 :: x7 :: x8 :: w :: ls) (v := oi z) hl'))
theorem r_as9 (C : oCx p s m args meth c G b own cc nL) {x0 x1 x2 x3 x4 x5 x6 x7 x8 : Option oV} {w : Option oV} {z : Nat} (hd : decode cc pc = .ok (.astore 9, 2)) (hq : pc + 2 = q) (hn : 9 < nL) (kk : oW p l e R s m args below meth c G b nL k n Q T σ q (x0 :: x1 :: x2 :: x3 :: x4 :: x5 :: x6 :: x7 :: x8 :: some (og z) :: ls) st) : oW p l e R s m args below meth c G b nL k n Q T σ pc (x0 :: x1 :: x2 :: x3 :: x4 :: x5 :: x6 :: x7 :: x8 :: w :: ls) (og z :: st) := by
  intro H locs la hW hS hl
  subst hq
  exact lv_astore C.1 C.2.1 hd hl hn rfl (fun la' hl' => kk H locs la' hW hS (o_lvset (ls := x0 :: x1 :: x2 :: x3 :: x4 :: x5 :: x6 :: x7 :: x8 :: w :: ls) (v := og z) hl'))
theorem r_aas9 (C : oCx p s m args meth c G b own cc nL) {x0 x1 x2 x3 x4 x5 x6 x7 x8 : Option oV} {w : Option oV} {z : Nat} (hd : decode cc pc = .ok (.astore 9, 2)) (hq : pc + 2 = q) (hn : 9 < nL) (kk : oW p l e R s m args below meth c G b nL k n Q T σ q (x0 :: x1 :: x2 :: x3 :: x4 :: x5 :: x6 :: x7 :: x8 :: some (oa z) :: ls) st) : oW p l e R s m args below meth c G b nL k n Q T σ pc (x0 :: x1 :: x2 :: x3 :: x4 :: x5 :: x6 :: x7 :: x8 :: w :: ls) (oa z :: st) := by
  intro H locs la hW hS hl
  subst hq
  exact lv_astore C.1 C.2.1 hd hl hn rfl (fun la' hl' => kk H locs la' hW hS (o_lvset (ls := x0 :: x1 :: x2 :: x3 :: x4 :: x5 :: x6 :: x7 :: x8 :: w :: ls) (v := oa z) hl'))
theorem r_fs9 (C : oCx p s m args meth c G b own cc nL) {x0 x1 x2 x3 x4 x5 x6 x7 x8 : Option oV} {w : Option oV} {z : UInt32} (hd : decode cc pc = .ok (.fstore 9, 2)) (hq : pc + 2 = q) (hn : 9 < nL) (kk : oW p l e R s m args below meth c G b nL k n Q T σ q (x0 :: x1 :: x2 :: x3 :: x4 :: x5 :: x6 :: x7 :: x8 :: some (ofl z) :: ls) st) : oW p l e R s m args below meth c G b nL k n Q T σ pc (x0 :: x1 :: x2 :: x3 :: x4 :: x5 :: x6 :: x7 :: x8 :: w :: ls) (ofl z :: st) := by
  intro H locs la hW hS hl
  subst hq
  exact lv_fstore C.1 C.2.1 hd hl hn rfl (fun la' hl' => kk H locs la' hW hS (o_lvset (ls := x0 :: x1 :: x2 :: x3 :: x4 :: x5 :: x6 :: x7 :: x8 :: w :: ls) (v := ofl z) hl'))
theorem r_iinc9 (C : oCx p s m args meth c G b own cc nL) {x0 x1 x2 x3 x4 x5 x6 x7 x8 : Option oV} {z d : Int} (hd : decode cc pc = .ok (.iinc 9 d, 3)) (hq : pc + 3 = q) (hn : 9 < nL) (kk : oW p l e R s m args below meth c G b nL k n Q T σ q (x0 :: x1 :: x2 :: x3 :: x4 :: x5 :: x6 :: x7 :: x8 :: some (oi (z + d)) :: ls) st) : oW p l e R s m args below meth c G b nL k n Q T σ pc (x0 :: x1 :: x2 :: x3 :: x4 :: x5 :: x6 :: x7 :: x8 :: some (oi z) :: ls) st := by
  intro H locs la hW hS hl
  subst hq
  obtain ⟨k', hk'⟩ := List.getElem?_of_mem (o_lv_mem (b := b) (i := 0) (ls := x0 :: x1 :: x2 :: x3 :: x4 :: x5 :: x6 :: x7 :: x8 :: some (oi z) :: ls) (k := 9) (v := oi z) rfl)
  exact lv_iinc (v := Int32.ofInt (z + d)) C.1 C.2.1 hd hl (k := k') (i := 9) (x := Int32.ofInt z) hk' (Int32.ofInt_add z d).symm hn rfl (fun la' hl' => kk H locs la' hW hS (o_lvset (ls := x0 :: x1 :: x2 :: x3 :: x4 :: x5 :: x6 :: x7 :: x8 :: some (oi z) :: ls) (v := oi (z + d)) hl'))
theorem r_tsin (C : oCx p s m args meth c G b own cc nL) {dflt lo hi off : Int} {offs : Array Int} {len j : Nat} {x : Int} (hd : decode cc pc = .ok (.tableswitch dflt lo hi offs, len)) (hr : o_r x) (hx : x = lo + j) (hj : lo + j ≤ hi) (ho : offs[j]? = some off) (ht : (pc : Int) + off = (q : Int)) (kk : oW p l e R s m args below meth c G b nL k n Q T σ q ls st) : oW p l e R s m args below meth c G b nL k n Q T σ pc ls (oi x :: st) := by
  intro H locs la hW hS hl
  have e1 := o_toInt hr
  refine lv_tableIn C.1 C.2.1 hd (by rw [e1]; omega) (by rw [e1]; omega) (off := off) ?_ ht (kk H locs la hW hS hl)
  rw [e1, show (x - lo).toNat = j by omega]
  exact ho
theorem r_tsout (C : oCx p s m args meth c G b own cc nL) {dflt lo hi : Int} {offs : Array Int} {len : Nat} {x : Int} (hd : decode cc pc = .ok (.tableswitch dflt lo hi offs, len)) (hr : o_r x) (hx : x < lo ∨ hi < x) (ht : (pc : Int) + dflt = (q : Int)) (kk : oW p l e R s m args below meth c G b nL k n Q T σ q ls st) : oW p l e R s m args below meth c G b nL k n Q T σ pc ls (oi x :: st) := by
  intro H locs la hW hS hl
  exact lv_tableOut C.1 C.2.1 hd (by rw [o_toInt hr]; exact hx) ht (kk H locs la hW hS hl)
theorem r_lsw (C : oCx p s m args meth c G b own cc nL) {dflt off : Int} {ps : Array (Int × Int)} {len : Nat} {x : Int} (hd : decode cc pc = .ok (.lookupswitch dflt ps, len)) (hr : o_r x) (hp : (ps.toList.zip (ps.toList.drop 1)).all (fun (a, next) => a.1 < next.1) = true) (ho : Op.lookupswitch.offset ps.toList dflt x = off) (ht : (pc : Int) + off = (q : Int)) (kk : oW p l e R s m args below meth c G b nL k n Q T σ q ls st) : oW p l e R s m args below meth c G b nL k n Q T σ pc ls (oi x :: st) := by
  intro H locs la hW hS hl
  exact lv_lookup C.1 C.2.1 hd hp (by rw [o_toInt hr]; exact ho) ht (kk H locs la hW hS hl)
end OR
