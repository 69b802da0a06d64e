/-! strings: the eight forms, the JDK's methods on them -/
def MSg (G : oG) (b : Nat) (y : MethodName) (cc : ByteArray) (nL : Nat) (ret : Option FieldType) (fr mc ms lc : Nat) (av : List Value) (T : oT) (σ : oM) (Po : Option oV → oT → oM → Prop) : Prop :=
  ∀ (l : Launch), Met l y (o_ws y cc nL ret) ({ frames := fr, cells := mc, slots := ms, locals := lc }) (va_Pc av (fun U => o_K G b U ∧ o_W G b T σ U.heap)) (o_Qc G b Po) mc ms (fun q => b ≤ q)
theorem o_metG {G : oG} {b : Nat} {y : MethodName} {cc : ByteArray} {nL : Nat} {ret : Option FieldType} {fr mc ms lc : Nat} {av : List Value} {ls : List (Option oV)} {T : oT} {σ : oM} {Po : Option oV → oT → oM → Prop} (hy : plainName y.cls = true)
    (hl : lv_has ((lg_sl av ++ List.replicate (nL - (lg_sl av).length) Slot.unset).toArray) nL (o_lv b 0 ls))
    (body : ∀ (p : Program) (l : Launch) (e : Env) (s : State) (m : MethodId) (args : Array Value) (below : List Frame) (meth : Method) (c : Code), oCx p s m args meth c G b y.cls cc nL → meth.sig.returnType = ret → meth.name = y.name →
      oW p l e ({ frames := fr, cells := mc, slots := ms, locals := lc } : Room) s m args below meth c G b nL 0 0 (MQ below (o_Qc G b Po) args s mc ms (fun q => b ≤ q)) T σ 0 ls []) : MSg G b y cc nL ret fr mc ms lc av T σ Po := by
  intro l
  refine Met.ofW (cc := cc) (maxL := nL) (ret := ret) hy rfl ?_
  intro p e s m args below meth c s₁ B hml hv
  obtain ⟨rfl, hK, hW⟩ := hv
  have hts := atoms_spec (ws := o_ws y cc nL ret) B.pre
  have hC : oCx p s m _ meth c G b y.cls cc nL := ⟨B.exec, B.bytes, hml, findClass_of_methodNamed B.named, fun w h => hts w (List.mem_cons_of_mem _ h), hK, o_W.le hW, B.notSynchronized⟩
  have h := body p l e s m _ below meth c hC B.returns (name_of_methodNamed B.named B.method).1 s.heap [] _ hW va_S.rf hl
  rw [lg_entry_eq]
  exact h
def o_MA (own : String) (idx : Nat) (Cn : String) (y : MethodName) (cc : ByteArray) (nL : Nat) (ret : Option FieldType) (nA : Nat) : Prop :=
  (Cond.methodLink own idx y ∈ oALL ∧ Cond.instanceMethod y ∈ oALL ∧ Cond.selects Cn y y ∈ oALL ∧ Cond.initialized Cn ∈ oALL ∧ Cond.code y cc nL ret ∈ oALL) ∧ (y.cls = Cn ∧ y.cls ≠ "java/lang/invoke/MethodHandle" ∧ y.cls ≠ "java/lang/invoke/VarHandle" ∧ (parseMethodDescriptor y.desc).map (fun d => d.parameters.length) = some nA)
section OS
variable {p : Program} {l : Launch} {e : Env} {R : Room} {s : State} {m : MethodId} {args : Array Value} {below : List Frame} {meth : Method} {c : Code} {G : oG} {b : Nat} {own : String} {cc : ByteArray} {nL k n pc q : Nat} {Q : State → Prop} {T : oT} {σ : oM} {ls : List (Option oV)} {st stk : List oV} {H : Heap} {locs : List Loc}
theorem o_blindV {av : List Value} : FrameBlind (va_Pc av (fun U => o_K G b U ∧ o_W G b T σ U.heap)) := fun a U g mk h => ⟨h.1, o_K.same (s := U) (U := U.calling g mk a) rfl h.2.1, h.2.2⟩
theorem o_callV {vs : List Value} {mc ms : Nat} {free : Addr → Prop} {Po : Option oV → oT → oM → Prop} {av : Array Value} {locs : List Loc} {la : Array Slot} (run : va_Run p l e R s m args below meth c H locs k n mc ms (F0 m pc la vs) (st.map (oc b)) (o_Qc G b Po av) free) (hfree : ∀ x, free x → b ≤ x) (hW : o_W G b T σ H) (hS : va_S (fun q => b ≤ q) s.heap H locs) (hl : lv_has la nL (o_lv b 0 ls)) (hq : pc + 3 = q)
    (kk : ∀ (r : Option oV) (T' : oT) (σ' : oM), Po r T' σ' → oW p l e R s m args below meth c G b nL (k + mc) (n + ms) Q T' σ' q ls (r.toList ++ st)) : W p l e R s m args below meth c H locs k n Q (F0 m pc la vs) := by
  intro T2 hT X
  obtain ⟨v, st₀, t, T', L, h0, X', hL, e1, e2, ⟨⟨r, T3, σ3, hv, hp, hW3⟩, hz, hk⟩, stp⟩ := run T2 hT X
  cases hv
  rw [h0] at hz hk
  subst hq
  have hS' : va_S (fun q => b ≤ q) s.heap T'.heap (locs ++ L) := ⟨Nat.le_trans hS.1 (by rw [e1]; exact hz), fun x h1 h2 => by rw [e1, hk x (Nat.lt_of_lt_of_le h1 hS.1) h2]; exact hS.2.1 x h1 h2, fun x hx => by
    rcases List.mem_append.mp hx with h | h
    · exact hS.2.2 x h
    · exact hfree _ (hL x h)⟩
  obtain ⟨t2, a1, b1⟩ := kk r T3 σ3 hp T'.heap (locs ++ L) la (by rw [e1]; exact hW3) hS' hl T' rfl X'
  refine ⟨t2, stp t2 ?_, b1⟩
  have e3 : (r.map (oc b)).toList ++ st.map (oc b) = (r.toList ++ st).map (oc b) := by cases r <;> simp
  rw [e3]
  exact a1
theorem o_low (C : oCx p s m args meth c G b own cc nL) (hW : o_W G b T σ H) (hS : va_S (fun q => b ≤ q) s.heap H locs) : ∀ q, q < b → s.heap[q]? = G.2.1 q := fun q hq => by
  have hb := C.2.2.2.2.2.2.1
  rw [← hS.2.1 q (Nat.lt_of_lt_of_le hq hb) (Nat.not_le.mpr hq)]
  exact hW.2.2 q hq
theorem o_St (C : oCx p s m args meth c G b own cc nL) (hW : o_W G b T σ H) (hS : va_S (fun q => b ≤ q) s.heap H locs) : vk_S 8 o_slen o_sbyt G.2.2.1 G.2.2.2 (fun q => b ≤ q) s s.heap := C.2.2.2.2.2.1.2.2.2.1.2 s.heap (o_low C hW hS)
theorem o_Zt (C : oCx p s m args meth c G b own cc nL) (hW : o_W G b T σ H) (hS : va_S (fun q => b ≤ q) s.heap H locs) : va_Z "java/lang/String" "COMPACT_STRINGS" "Z" (.int 1) (fun q => b ≤ q) s s.heap ∧ va_Zq "jdk/internal/util/Preconditions" "SIOOBE_FORMATTER" "Ljava/util/function/BiFunction;" (fun q => b ≤ q) s s.heap := C.2.2.2.2.2.1.2.2.2.2.2 s.heap (o_low C hW hS)
theorem r_ldcS (C : oCx p s m args meth c G b RX2 cc nL) {i : Nat} (hi : i < 8) (hd : decode cc pc = .ok (.ldc (61 + 2 * i), 2)) (hq : pc + 2 = q) (kk : oW p l e R s m args below meth c G b nL k n Q T σ q ls (oa (G.2.2.1 i) :: st)) : oW p l e R s m args below meth c G b nL k n Q T σ pc ls st := by
  intro H locs la hW hS hl
  subst hq
  exact va_ldcS C.1 C.2.1 C.2.2.2.1 (C.2.2.2.2.2.1.2.2.2.1.1 i hi) hd (kk H locs la hW hS hl)
theorem r_getV (C : oCx p s m args meth c G b own cc nL) {i idx : Nat} (hi : i < 8) (hf : Cond.fieldLink own idx "java/lang/String" "value" "[B" ∈ oALL) (hd : decode cc pc = .ok (.getfield idx, 3)) (hq : pc + 3 = q) (kk : oW p l e R s m args below meth c G b nL k n Q T σ q ls (oa (G.2.2.2 i) :: st)) : oW p l e R s m args below meth c G b nL k n Q T σ pc ls (oa (G.2.2.1 i) :: st) := by
  intro H locs la hW hS hl
  subst hq
  exact vk_getf C.1 C.2.1 ((o_St C hW hS).1 i hi).2.2.1 hS C.2.2.2.1 (C.2.2.2.2.1 _ hf) (fun _ h => h) hd (kk H locs la hW hS hl)
theorem r_getC (C : oCx p s m args meth c G b own cc nL) {i idx : Nat} (hi : i < 8) (hf : Cond.fieldLink own idx "java/lang/String" "coder" "B" ∈ oALL) (hd : decode cc pc = .ok (.getfield idx, 3)) (hq : pc + 3 = q) (kk : oW p l e R s m args below meth c G b nL k n Q T σ q ls (oi 0 :: st)) : oW p l e R s m args below meth c G b nL k n Q T σ pc ls (oa (G.2.2.1 i) :: st) := by
  intro H locs la hW hS hl
  subst hq
  exact vk_getf C.1 C.2.1 ((o_St C hW hS).1 i hi).2.1 hS C.2.2.2.1 (C.2.2.2.2.1 _ hf) (fun _ h => h) hd (kk H locs la hW hS hl)
theorem r_getK (C : oCx p s m args meth c G b own cc nL) {idx : Nat} (hf : Cond.fieldLink own idx "java/lang/String" "COMPACT_STRINGS" "Z" ∈ oALL) (hd : decode cc pc = .ok (.getstatic idx, 3)) (hq : pc + 3 = q) (kk : oW p l e R s m args below meth c G b nL k n Q T σ q ls (oi 1 :: st)) : oW p l e R s m args below meth c G b nL k n Q T σ pc ls st := by
  intro H locs la hW hS hl
  subst hq
  exact va_gets C.1 C.2.1 (o_Zt C hW hS).1 hS C.2.2.2.1 (C.2.2.2.2.1 _ hf) (fun _ h => h) hd (kk H locs la hW hS hl)
theorem r_alenS (C : oCx p s m args meth c G b own cc nL) {i : Nat} (hi : i < 8) (hd : decode cc pc = .ok (.arraylength, 1)) (hq : pc + 1 = q) (kk : oW p l e R s m args below meth c G b nL k n Q T σ q ls (oi ((o_slen.getD i 0 : Nat) : Int) :: st)) : oW p l e R s m args below meth c G b nL k n Q T σ pc ls (oa (G.2.2.2 i) :: st) := by
  intro H locs la hW hS hl
  subst hq
  exact va_tlen C.1 C.2.1 ((o_St C hW hS).1 i hi).2.2.2 hS (Int32.ofInt_eq_ofNat).symm hd (kk H locs la hW hS hl)
theorem r_baldS (C : oCx p s m args meth c G b own cc nL) {i j : Nat} {z : Int} (hi : i < 8) (hj : j < o_slen.getD i 0) (hj2 : j < 100) (hz : (o_sbyt.getD i []).getD j 0 = Int32.ofInt z) (hd : decode cc pc = .ok (.baload, 1)) (hq : pc + 1 = q) (kk : oW p l e R s m args below meth c G b nL k n Q T σ q ls (oi z :: st)) : oW p l e R s m args below meth c G b nL k n Q T σ pc ls (oi (j : Int) :: oa (G.2.2.2 i) :: st) := by
  intro H locs la hW hS hl
  subst hq
  refine va_tb C.1 C.2.1 ((o_St C hW hS).1 i hi).2.2.2 hS (i := Int32.ofInt (j : Int)) ?_ ?_ hd (kk H locs la hW hS hl)
  · refine fun h => ?_
    rcases h with h | h
    · have h0 : ¬ Int32.ofInt (j : Int) < 0 := by
        rw [o_lit0.symm, o_ltI ⟨by omega, by omega⟩ ⟨by omega, by omega⟩]
        omega
      exact h0 h
    · rw [o_clamp (by omega)] at h
      omega
  · show Value.int ((o_sbyt.getD i []).getD (Int32.ofInt (j : Int)).toNatClampNeg 0) = Value.int (Int32.ofInt z)
    rw [o_clamp (by omega), hz]
theorem r_ishr (C : oCx p s m args meth c G b own cc nL) {x y z : Int} (hz : Int32.ofInt x >>> (Int32.ofInt y &&& 31) = Int32.ofInt z) (hd : decode cc pc = .ok (.ishr, 1)) (hq : pc + 1 = q) (kk : oW p l e R s m args below meth c G b nL k n Q T σ q ls (oi z :: st)) : oW p l e R s m args below meth c G b nL k n Q T σ pc ls (oi y :: oi x :: st) := by
  intro H locs la hW hS hl
  subst hq
  refine lv_ishr C.1 C.2.1 hd ?_
  rw [hz]
  exact kk H locs la hW hS hl
theorem r_tret {Po : Option oV → oT → oM → Prop} {mc ms : Nat} {z : Int} {ty : FieldType} (C : oCx p s m args meth c G b own cc nL) (hr : meth.sig.returnType = some ty) (hz : narrow ty (.int (Int32.ofInt z)) = .int (Int32.ofInt z)) (hd : decode cc pc = .ok (.ireturn, 1)) (h1 : k ≤ mc) (h2 : n ≤ ms) (hp : Po (some (oi z)) T σ) : oW p l e R s m args below meth c G b nL k n (MQ below (o_Qc G b Po) args s mc ms (fun q => b ≤ q)) T σ pc ls [oi z] := by
  intro H locs la hW hS hl
  refine W.widen h1 h2 ?_
  exact W.zret C.1 C.2.1 hr hz (fun t ht _ => ⟨⟨some (oi z), T, σ, rfl, hp, by rw [ht]; exact hW⟩, hS.F ht⟩) hS.2.2 hd C.2.2.2.2.2.2.2
theorem r_callA (C : oCx p s m args meth c G b own cc nL) {idx i nL' fr mc ms lc : Nat} {y : MethodName} {cc' : ByteArray} {ret : Option FieldType} {As : List oV} {Po : Option oV → oT → oM → Prop} (hi : i < 8) (hM : MSg G b y cc' nL' ret fr mc ms lc ((oa (G.2.2.1 i) :: As).map (oc b)) T σ Po) (F : o_MA own idx "java/lang/String" y cc' nL' ret As.length) (hd : decode cc pc = .ok (.invokevirtual idx, 3)) (hq : pc + 3 = q) (hst : stk = As.reverse ++ oa (G.2.2.1 i) :: st) (hR : fr + 1 ≤ R.frames ∧ 8 + (nL' + 11) + lc ≤ R.locals) (hr : k + mc ≤ R.cells ∧ n + ms ≤ R.slots) (hsl : st.length ≤ 8)
    (kk : ∀ (r : Option oV) (T' : oT) (σ' : oM), Po r T' σ' → oW p l e R s m args below meth c G b nL (k + mc) (n + ms) Q T' σ' q ls (r.toList ++ st)) : oW p l e R s m args below meth c G b nL k n Q T σ pc ls stk := by
  intro H locs la hW hS hl
  obtain ⟨⟨f1, f2, f3, f4, f5⟩, hy⟩ := F
  have hts := C.2.2.2.2.1
  have hG : GoodIn oALL (wsV own idx "java/lang/String" y (o_ws y cc' nL' ret)) := o_good (fun w hw => by
    unfold wsV at hw
    rcases List.mem_append.mp hw with h | h
    · simp only [List.mem_cons, List.not_mem_nil, or_false] at h
      rcases h with h | h | h | h <;> rw [h] <;> assumption
    · exact (o_gws f5 w h).1)
  have run := va_runV (p := p) (l := l) (e := e) (R := R) (s := s) (m := m) (args := args) (below := below) (meth := meth) (c := c) (H := H) (locs := locs) (cells := k) (slots := n) (g := F0 m pc la (stk.map (oc b))) (b := G.2.2.1 i) (As := As.map (oc b)) (rest := st.map (oc b)) (Ts := oALL) (own := own) (cc := cc) (nL := nL) ⟨C.1, C.2.1, C.2.2.1, C.2.2.2.1, hts⟩ (hM l) (cwV As.length hts hG rfl rfl rfl hy hR) ⟨o_blindV, vk_recv (o_St C hW hS) hi hS, fun U hU hWU => ⟨rfl, o_K.warm hWU C.2.2.2.2.2.1, by rw [hU]; exact hW⟩⟩ rfl (by simp) hl.1 (by rw [hst]; simp [List.map_reverse]; rfl) (by rw [oc_sum]; show 2 * 0 + _ ≤ 8; omega) hd hr
  exact o_call run (fun x h => h) hW hS hl hq kk
theorem r_callG (C : oCx p s m args meth c G b own cc nL) {idx nL' fr mc ms lc : Nat} {y : MethodName} {cc' : ByteArray} {ret : Option FieldType} {As : List oV} {Po : Option oV → oT → oM → Prop} (hM : MSg G b y cc' nL' ret fr mc ms lc (As.map (oc b)) T σ Po) (F : o_MX own idx y cc' nL' ret As.length) (hd : decode cc pc = .ok (.invokestatic idx, 3)) (hq : pc + 3 = q) (hst : stk = As.reverse ++ st) (hR : fr + 1 ≤ R.frames ∧ 8 + (nL' + 11) + lc ≤ R.locals) (hr : k + mc ≤ R.cells ∧ n + ms ≤ R.slots) (hsl : st.length ≤ 8)
    (kk : ∀ (r : Option oV) (T' : oT) (σ' : oM), Po r T' σ' → oW p l e R s m args below meth c G b nL (k + mc) (n + ms) Q T' σ' q ls (r.toList ++ st)) : oW p l e R s m args below meth c G b nL k n Q T σ pc ls stk := by
  intro H locs la hW hS hl
  obtain ⟨⟨f1, f2, f3, f4⟩, hy⟩ := F
  have hts := C.2.2.2.2.1
  have run := va_runS (p := p) (l := l) (e := e) (R := R) (s := s) (m := m) (args := args) (below := below) (meth := meth) (c := c) (H := H) (locs := locs) (cells := k) (slots := n) (g := F0 m pc la (stk.map (oc b))) (As := As.map (oc b)) (rest := st.map (oc b)) (Ts := oALL) (own := own) (cc := cc) (nL := nL) ⟨C.1, C.2.1, C.2.2.1, C.2.2.2.1, hts⟩ (hM l) ⟨callB_of As.length hts (o_gws f4) rfl rfl rfl (hts _ f3) (hts _ f1) hy hR, hts _ f2⟩ ⟨o_blindV, fun U hU hWU => ⟨rfl, o_K.warm hWU C.2.2.2.2.2.1, by rw [hU]; exact hW⟩⟩ rfl (by simp) hl.1 (by rw [hst]; simp [List.map_reverse]) (by rw [oc_sum]; show 2 * 0 + _ ≤ 8; omega) hd hr
  exact o_call run (fun x h => h) hW hS hl hq kk
/-- the check of an index: the formatter's value, whatever it is, goes along -/
theorem r_chk (C : oCx p s m args meth c G b own cc nL) {idx idy pc2 : Nat} {z zn : Int} (hM : ∀ v : Value, v.category = 1 → MSg G b yJ3_checkIndex_8e157 cJ3_checkIndex_8e157 3 (some .int) 0 0 0 0 [.int (Int32.ofInt z), .int (Int32.ofInt zn), v] T σ (oP1 (oi z) T σ)) (F : o_MX own idy yJ3_checkIndex_8e157 cJ3_checkIndex_8e157 3 (some .int) 3) (hf : Cond.fieldLink own idx "jdk/internal/util/Preconditions" "SIOOBE_FORMATTER" "Ljava/util/function/BiFunction;" ∈ oALL) (hd : decode cc pc = .ok (.getstatic idx, 3)) (hp2 : pc + 3 = pc2) (hd2 : decode cc pc2 = .ok (.invokestatic idy, 3)) (hq : pc2 + 3 = q) (hR : 1 ≤ R.frames ∧ 22 ≤ R.locals) (hr : k ≤ R.cells ∧ n ≤ R.slots) (hsl : st.length ≤ 8)
    (kk : oW p l e R s m args below meth c G b nL k n Q T σ q ls (oi z :: st)) : oW p l e R s m args below meth c G b nL k n Q T σ pc ls (oi zn :: oi z :: st) := by
  intro H locs la hW hS hl
  subst hp2
  obtain ⟨⟨f1, f2, f3, f4⟩, hy⟩ := F
  have hts := C.2.2.2.2.1
  have go : ∀ v : Value, v.category = 1 → va_Z "jdk/internal/util/Preconditions" "SIOOBE_FORMATTER" "Ljava/util/function/BiFunction;" v (fun q => b ≤ q) s s.heap → W p l e R s m args below meth c H locs k n Q (F0 m pc la ((oi zn :: oi z :: st).map (oc b))) := fun v hv hz => by
    refine va_gets C.1 C.2.1 hz hS C.2.2.2.1 (hts _ hf) (fun _ h => h) hd ?_
    have run := va_runS (p := p) (l := l) (e := e) (R := R) (s := s) (m := m) (args := args) (below := below) (meth := meth) (c := c) (H := H) (locs := locs) (cells := k) (slots := n) (g := F0 m (pc + 3) la (v :: (oi zn :: oi z :: st).map (oc b))) (As := [.int (Int32.ofInt z), .int (Int32.ofInt zn), v]) (rest := st.map (oc b)) (Ts := oALL) (own := own) (cc := cc) (nL := nL) ⟨C.1, C.2.1, C.2.2.1, C.2.2.2.1, hts⟩ (hM v hv l) ⟨callB_of 3 hts (o_gws f4) rfl rfl rfl (hts _ f3) (hts _ f1) hy (by show 0 + 1 ≤ R.frames ∧ 8 + (3 + 11) + 0 ≤ R.locals; omega), hts _ f2⟩ ⟨o_blindV, fun U hU hWU => ⟨rfl, o_K.warm hWU C.2.2.2.2.2.1, by rw [hU]; exact hW⟩⟩ rfl (by simp) hl.1 rfl (by rw [oc_sum]; show 2 * 0 + _ ≤ 8; omega) hd2 hr
    exact o_callV run (fun x h => h) hW hS hl hq (fun r T' σ' h => by obtain ⟨rfl, rfl, rfl⟩ := h; exact kk)
  rcases (o_Zt C hW hS).2 with h | ⟨t, h⟩
  · exact go .null rfl h
  · exact go (.ref t) rfl h
end OS
def o_sch : List (List Int) := [[100, 58, 110, 45, 110], [100, 58, 110, 43, 110, 42, 100], [100, 58, 110, 61, 100], [100, 58, 110, 61, 110], [100, 46, 100, 58, 110, 61, 100], [100, 58, 100, 46, 100, 42, 110, 47, 110], [110, 58, 110, 43, 110], []]
theorem o_sch_b : ∀ i, i < 8 → ∀ j, j < 9 → j < o_slen.getD i 0 → (o_sbyt.getD i []).getD j 0 = Int32.ofInt ((o_sch.getD i []).getD j 0) ∧ Int32.ofInt ((o_sch.getD i []).getD j 0) &&& Int32.ofInt 255 = Int32.ofInt ((o_sch.getD i []).getD j 0) ∧ 0 ≤ (o_sch.getD i []).getD j 0 ∧ (o_sch.getD i []).getD j 0 < 128 := by decide +kernel
theorem o_slen_b : ∀ i, i < 8 → o_slen.getD i 0 ≤ 9 ∧ (o_sch.getD i []).length = o_slen.getD i 0 ∧ Int32.ofInt ((o_slen.getD i 0 : Nat) : Int) >>> (Int32.ofInt 0 &&& 31) = Int32.ofInt ((o_slen.getD i 0 : Nat) : Int) := by decide +kernel
theorem narrow_c : ∀ z : Nat, z < 128 → narrow .char (.int (Int32.ofInt (z : Int))) = .int (Int32.ofInt (z : Int)) := by decide +kernel
set_option maxRecDepth 20000 in
set_option maxHeartbeats 8000000 in
theorem c_J0_coder_7d493 {G : oG} {b : Nat} {T : oT} {σ : oM} {i : Nat} (hi : i < 8) : MSg G b yJ0_coder_7d493 cJ0_coder_7d493 1 (some FieldType.byte) 0 0 0 0 ([oa (G.2.2.1 i)].map (oc b)) T σ (oP1 (oi 0) T σ) := by
  refine o_metG (by decide +kernel) (o_entry b [oa (G.2.2.1 i)] (Nat.le_refl _)) (fun p l ee s m args below meth c C hr hn => ?_)
  have C : oCx p s m args meth c G b RJ0 cJ0_coder_7d493 1 := C
  show oW p l ee ({ frames := 0, cells := 0, slots := 0, locals := 0 } : Room) s m args below meth c G b 1 0 0 (MQ below (o_Qc G b (oP1 (oi 0) T σ)) args s 0 0 (fun q => b ≤ q)) T σ 0 [some (oa (G.2.2.1 i))] []
  refine r_getK (q := 3) C (o_t4 137 rfl rfl) dJ0_coder_7d493_0 rfl ?_
  refine r_ifeq_f (q := 13) (q2 := 6) C (by decide) (by omega) dJ0_coder_7d493_3 (by decide) rfl ?_
  refine r_aal0 (q := 7) C dJ0_coder_7d493_6 rfl ?_
  refine r_getC (q := 10) C hi (o_t6 222 rfl rfl) dJ0_coder_7d493_7 rfl ?_
  refine r_goto (q := 14) C dJ0_coder_7d493_10 (by decide) ?_
  exact r_tret C hr (by decide) dJ0_coder_7d493_14 (by decide) (by decide) ⟨rfl, rfl, rfl⟩
set_option maxRecDepth 20000 in
set_option maxHeartbeats 8000000 in
theorem c_J0_isLatin1_aae02 {G : oG} {b : Nat} {T : oT} {σ : oM} {i : Nat} (hi : i < 8) : MSg G b yJ0_isLatin1_aae02 cJ0_isLatin1_aae02 1 (some FieldType.boolean) 0 0 0 0 ([oa (G.2.2.1 i)].map (oc b)) T σ (oP1 (oi 1) T σ) := by
  refine o_metG (by decide +kernel) (o_entry b [oa (G.2.2.1 i)] (Nat.le_refl _)) (fun p l ee s m args below meth c C hr hn => ?_)
  have C : oCx p s m args meth c G b RJ0 cJ0_isLatin1_aae02 1 := C
  show oW p l ee ({ frames := 0, cells := 0, slots := 0, locals := 0 } : Room) s m args below meth c G b 1 0 0 (MQ below (o_Qc G b (oP1 (oi 1) T σ)) args s 0 0 (fun q => b ≤ q)) T σ 0 [some (oa (G.2.2.1 i))] []
  refine r_getK (q := 3) C (o_t4 137 rfl rfl) dJ0_isLatin1_aae02_0 rfl ?_
  refine r_ifeq_f (q := 17) (q2 := 6) C (by decide) (by omega) dJ0_isLatin1_aae02_3 (by decide) rfl ?_
  refine r_aal0 (q := 7) C dJ0_isLatin1_aae02_6 rfl ?_
  refine r_getC (q := 10) C hi (o_t6 222 rfl rfl) dJ0_isLatin1_aae02_7 rfl ?_
  refine r_ifne_f (q := 17) (q2 := 13) C (by decide) (by omega) dJ0_isLatin1_aae02_10 (by decide) rfl ?_
  refine r_iconst (q := 14) C dJ0_isLatin1_aae02_13 rfl ?_
  refine r_goto (q := 18) C dJ0_isLatin1_aae02_14 (by decide) ?_
  exact r_zret C hr dJ0_isLatin1_aae02_18 (by decide) (by decide) (by decide) ⟨rfl, rfl, rfl⟩
theorem m_J0_335 : o_MA RJ0 335 "java/lang/String" yJ0_coder_7d493 cJ0_coder_7d493 1 (some FieldType.byte) 0 := ⟨⟨o_t4 133 rfl rfl, o_t4 134 rfl rfl, o_t4 135 rfl rfl, o_t1 14 rfl rfl, o_t4 136 rfl rfl⟩, rfl, by decide, by decide, by decide⟩
theorem m_J0_492 : o_MA RJ0 492 "java/lang/String" yJ0_isLatin1_aae02 cJ0_isLatin1_aae02 1 (some FieldType.boolean) 0 := ⟨⟨o_t4 143 rfl rfl, o_t4 144 rfl rfl, o_t4 145 rfl rfl, o_t1 14 rfl rfl, o_t4 146 rfl rfl⟩, rfl, by decide, by decide, by decide⟩
theorem m_X2_45 : o_MA RX2 45 "java/lang/String" yJ0_isEmpty_aae02 cJ0_isEmpty_aae02 1 (some FieldType.boolean) 0 := ⟨⟨o_t4 125 rfl rfl, o_t4 126 rfl rfl, o_t4 127 rfl rfl, o_t1 14 rfl rfl, o_t4 128 rfl rfl⟩, rfl, by decide, by decide, by decide⟩
theorem m_X2_50 : o_MA RX2 50 "java/lang/String" yJ0_length_8abf5 cJ0_length_8abf5 1 (some FieldType.int) 0 := ⟨⟨o_t4 129 rfl rfl, o_t4 130 rfl rfl, o_t4 131 rfl rfl, o_t1 14 rfl rfl, o_t4 132 rfl rfl⟩, rfl, by decide, by decide, by decide⟩
theorem m_X2_53 : o_MA RX2 53 "java/lang/String" yJ0_charAt_5068e cJ0_charAt_5068e 2 (some FieldType.char) 1 := ⟨⟨o_t4 139 rfl rfl, o_t4 140 rfl rfl, o_t4 141 rfl rfl, o_t1 14 rfl rfl, o_t4 142 rfl rfl⟩, rfl, by decide, by decide, by decide⟩
theorem m_J0_1059 : o_MX RJ0 1059 yJ3_checkIndex_8e157 cJ3_checkIndex_8e157 3 (some FieldType.int) 3 := ⟨⟨o_t4 155 rfl rfl, o_t4 156 rfl rfl, o_t1 16 rfl rfl, o_t4 157 rfl rfl⟩, by decide, by decide, by decide⟩
theorem m_J1_9 : o_MX RJ1 9 yJ0_checkIndex_df160 cJ0_checkIndex_df160 2 none 2 := ⟨⟨o_t4 150 rfl rfl, o_t4 151 rfl rfl, o_t1 14 rfl rfl, o_t4 152 rfl rfl⟩, by decide, by decide, by decide⟩
theorem m_J0_495 : o_MX RJ0 495 yJ1_charAt_3b067 cJ1_charAt_3b067 2 (some FieldType.char) 2 := ⟨⟨o_t4 147 rfl rfl, o_t4 148 rfl rfl, o_t1 15 rfl rfl, o_t4 149 rfl rfl⟩, by decide, by decide, by decide⟩
set_option maxRecDepth 20000 in
set_option maxHeartbeats 8000000 in
theorem c_J0_length_8abf5 {G : oG} {b : Nat} {T : oT} {σ : oM} {i : Nat} (hi : i < 8) : MSg G b yJ0_length_8abf5 cJ0_length_8abf5 1 (some FieldType.int) 1 0 0 20 ([oa (G.2.2.1 i)].map (oc b)) T σ (oP1 (oi ((o_slen.getD i 0 : Nat) : Int)) T σ) := by
  refine o_metG (by decide +kernel) (o_entry b [oa (G.2.2.1 i)] (Nat.le_refl _)) (fun p l ee s m args below meth c C hr hn => ?_)
  have C : oCx p s m args meth c G b RJ0 cJ0_length_8abf5 1 := C
  show oW p l ee ({ frames := 1, cells := 0, slots := 0, locals := 20 } : Room) s m args below meth c G b 1 0 0 (MQ below (o_Qc G b (oP1 (oi ((o_slen.getD i 0 : Nat) : Int)) T σ)) args s 0 0 (fun q => b ≤ q)) T σ 0 [some (oa (G.2.2.1 i))] []
  refine r_aal0 (q := 1) C dJ0_length_8abf5_0 rfl ?_
  refine r_getV (q := 4) C hi (o_t6 221 rfl rfl) dJ0_length_8abf5_1 rfl ?_
  refine r_alenS (q := 5) C hi dJ0_length_8abf5_4 rfl ?_
  refine r_aal0 (q := 6) C dJ0_length_8abf5_5 rfl ?_
  refine r_callA (q := 9) C hi (As := []) (c_J0_coder_7d493 hi) m_J0_335 dJ0_length_8abf5_6 rfl rfl (by decide) (by decide) (Nat.le_of_ble_eq_true rfl) (fun r2 T2 σ2 hq2 => ?_)
  obtain ⟨rfl, rfl, rfl⟩ := hq2
  refine r_ishr (q := 10) (z := ((o_slen.getD i 0 : Nat) : Int)) C (o_slen_b i hi).2.2 dJ0_length_8abf5_9 rfl ?_
  exact r_iret C hr dJ0_length_8abf5_10 (by decide) (by decide) ⟨rfl, rfl, rfl⟩
set_option maxRecDepth 20000 in
set_option maxHeartbeats 8000000 in
theorem c_J0_isEmpty_aae02 {G : oG} {b : Nat} {T : oT} {σ : oM} {i : Nat} (hi : i < 8) : MSg G b yJ0_isEmpty_aae02 cJ0_isEmpty_aae02 1 (some FieldType.boolean) 0 0 0 0 ([oa (G.2.2.1 i)].map (oc b)) T σ (oP1 (oi (if o_slen.getD i 0 = 0 then 1 else 0)) T σ) := by
  refine o_metG (by decide +kernel) (o_entry b [oa (G.2.2.1 i)] (Nat.le_refl _)) (fun p l ee s m args below meth c C hr hn => ?_)
  have C : oCx p s m args meth c G b RJ0 cJ0_isEmpty_aae02 1 := C
  show oW p l ee ({ frames := 0, cells := 0, slots := 0, locals := 0 } : Room) s m args below meth c G b 1 0 0 (MQ below (o_Qc G b (oP1 (oi (if o_slen.getD i 0 = 0 then 1 else 0)) T σ)) args s 0 0 (fun q => b ≤ q)) T σ 0 [some (oa (G.2.2.1 i))] []
  refine r_aal0 (q := 1) C dJ0_isEmpty_aae02_0 rfl ?_
  refine r_getV (q := 4) C hi (o_t6 221 rfl rfl) dJ0_isEmpty_aae02_1 rfl ?_
  refine r_alenS (q := 5) C hi dJ0_isEmpty_aae02_4 rfl ?_
  have hsl := (o_slen_b i hi).1
  refine r_ifne (q := 12) (q2 := 8) C (by omega) dJ0_isEmpty_aae02_5 (by decide) rfl (fun br5 => ?_) (fun br5 => ?_)
  · refine r_iconst (q := 13) C dJ0_isEmpty_aae02_12 rfl ?_
    exact r_zret C hr dJ0_isEmpty_aae02_13 (by decide) (by decide) (by decide) ⟨by rw [if_neg (by omega)], rfl, rfl⟩
  · refine r_iconst (q := 9) C dJ0_isEmpty_aae02_8 rfl ?_
    refine r_goto (q := 13) C dJ0_isEmpty_aae02_9 (by decide) ?_
    exact r_zret C hr dJ0_isEmpty_aae02_13 (by decide) (by decide) (by decide) ⟨by rw [if_pos (by omega)], rfl, rfl⟩
theorem o_ent3 (b : Nat) {zN zn : Int} {v : Value} (hv : v.category = 1) : lv_has ((lg_sl [.int (Int32.ofInt zN), .int (Int32.ofInt zn), v] ++ List.replicate (3 - (lg_sl [.int (Int32.ofInt zN), .int (Int32.ofInt zn), v]).length) Slot.unset).toArray) 3 (o_lv b 0 [some (oi zN), some (oi zn), none]) := by
  have hls : (lg_sl [.int (Int32.ofInt zN), .int (Int32.ofInt zn), v]).length ≤ 3 := by
    have e1 : ∀ z : Int32, (Value.int z).category = 1 := fun _ => rfl
    simp [lg_sl, hv, e1]
  have h1 := lv_entry [.int (Int32.ofInt zN), .int (Int32.ofInt zn), v] (n := 3) hls
  refine ⟨h1.1, h1.2.1, fun q hq => h1.2.2 q ?_⟩
  have hq2 : q ∈ [((0 : Nat), Value.int (Int32.ofInt zN)), (1, Value.int (Int32.ofInt zn))] := hq
  simp only [List.mem_cons, List.not_mem_nil, or_false] at hq2
  rcases hq2 with rfl | rfl
  · exact List.mem_cons_self
  · exact List.mem_cons_of_mem _ List.mem_cons_self
set_option maxRecDepth 20000 in
set_option maxHeartbeats 8000000 in
theorem c_J3_checkIndex_8e157 {G : oG} {b : Nat} {T : oT} {σ : oM} {zN zn : Int} {v : Value} (hv : v.category = 1) (hz : 0 ≤ zN ∧ zN < zn ∧ zn ≤ 1000) : MSg G b yJ3_checkIndex_8e157 cJ3_checkIndex_8e157 3 (some FieldType.int) 0 0 0 0 [.int (Int32.ofInt zN), .int (Int32.ofInt zn), v] T σ (oP1 (oi zN) T σ) := by
  refine o_metG (by decide +kernel) (o_ent3 b hv) (fun p l ee s m args below meth c C hr hn => ?_)
  have C : oCx p s m args meth c G b RJ3 cJ3_checkIndex_8e157 3 := C
  show oW p l ee ({ frames := 0, cells := 0, slots := 0, locals := 0 } : Room) s m args below meth c G b 3 0 0 (MQ below (o_Qc G b (oP1 (oi zN) T σ)) args s 0 0 (fun q => b ≤ q)) T σ 0 [some (oi zN), some (oi zn), none] []
  refine r_il0 (q := 1) C dJ3_checkIndex_8e157_0 rfl ?_
  refine r_iflt_f (q := 9) (q2 := 4) C (by omega) (by omega) dJ3_checkIndex_8e157_1 (by decide) rfl ?_
  refine r_il0 (q := 5) C dJ3_checkIndex_8e157_4 rfl ?_
  refine r_il1 (q := 6) C dJ3_checkIndex_8e157_5 rfl ?_
  refine r_iclt_t (q := 16) C (by omega) (by omega) (by omega) dJ3_checkIndex_8e157_6 (by decide) ?_
  refine r_il0 (q := 17) C dJ3_checkIndex_8e157_16 rfl ?_
  exact r_iret C hr dJ3_checkIndex_8e157_17 (by decide) (by decide) ⟨rfl, rfl, rfl⟩
set_option maxRecDepth 20000 in
set_option maxHeartbeats 8000000 in
theorem c_J0_checkIndex_df160 {G : oG} {b : Nat} {T : oT} {σ : oM} {zN zn : Int} (hz : 0 ≤ zN ∧ zN < zn ∧ zn ≤ 1000) : MSg G b yJ0_checkIndex_df160 cJ0_checkIndex_df160 2 none 1 0 0 22 ([oi zN, oi zn].map (oc b)) T σ (oPv (fun σ2 => σ2 = σ) T) := by
  refine o_metG (by decide +kernel) (o_entry b [oi zN, oi zn] (Nat.le_refl _)) (fun p l ee s m args below meth c C hr hn => ?_)
  have C : oCx p s m args meth c G b RJ0 cJ0_checkIndex_df160 2 := C
  show oW p l ee ({ frames := 1, cells := 0, slots := 0, locals := 22 } : Room) s m args below meth c G b 2 0 0 (MQ below (o_Qc G b (oPv (fun σ2 => σ2 = σ) T)) args s 0 0 (fun q => b ≤ q)) T σ 0 [some (oi zN), some (oi zn)] []
  refine r_il0 (q := 1) C dJ0_checkIndex_df160_0 rfl ?_
  refine r_il1 (q := 2) C dJ0_checkIndex_df160_1 rfl ?_
  refine r_chk (q := 8) (pc2 := 5) C (fun v hv => c_J3_checkIndex_8e157 hv hz) m_J0_1059 (o_t4 153 rfl rfl) dJ0_checkIndex_df160_2 rfl dJ0_checkIndex_df160_5 rfl (by decide) (by decide) (Nat.le_of_ble_eq_true rfl) ?_
  refine r_pop (q := 9) C dJ0_checkIndex_df160_8 rfl ?_
  exact r_vret C hr dJ0_checkIndex_df160_9 (by decide) (by decide) ⟨rfl, rfl, rfl⟩
set_option maxRecDepth 20000 in
set_option maxHeartbeats 8000000 in
theorem c_J1_charAt_3b067 {G : oG} {b : Nat} {T : oT} {σ : oM} {i : Nat} (hi : i < 8) {j : Nat} (hj : j < o_slen.getD i 0) : MSg G b yJ1_charAt_3b067 cJ1_charAt_3b067 2 (some FieldType.char) 2 0 0 43 ([oa (G.2.2.2 i), oi ((j : Nat) : Int)].map (oc b)) T σ (oP1 (oi ((o_sch.getD i []).getD j 0)) T σ) := by
  have hsb := o_slen_b i hi
  obtain ⟨s1q, s2q, s3q, s4q⟩ := o_sch_b i hi j (by omega) hj
  refine o_metG (by decide +kernel) (o_entry b [oa (G.2.2.2 i), oi ((j : Nat) : Int)] (Nat.le_refl _)) (fun p l ee s m args below meth c C hr hn => ?_)
  have C : oCx p s m args meth c G b RJ1 cJ1_charAt_3b067 2 := C
  show oW p l ee ({ frames := 2, cells := 0, slots := 0, locals := 43 } : Room) s m args below meth c G b 2 0 0 (MQ below (o_Qc G b (oP1 (oi ((o_sch.getD i []).getD j 0)) T σ)) args s 0 0 (fun q => b ≤ q)) T σ 0 [some (oa (G.2.2.2 i)), some (oi ((j : Nat) : Int))] []
  refine r_il1 (q := 1) C dJ1_charAt_3b067_0 rfl ?_
  refine r_aal0 (q := 2) C dJ1_charAt_3b067_1 rfl ?_
  refine r_alenS (q := 3) C hi dJ1_charAt_3b067_2 rfl ?_
  refine r_callG (q := 6) (As := [oi ((j : Nat) : Int), oi ((o_slen.getD i 0 : Nat) : Int)]) C (c_J0_checkIndex_df160 ⟨by omega, by omega, by omega⟩) m_J1_9 dJ1_charAt_3b067_3 rfl rfl (by decide) (by decide) (Nat.le_of_ble_eq_true rfl) (fun r2 T2 σ2 hq2 => ?_)
  obtain ⟨rfl, rfl, rfl⟩ := hq2
  refine r_aal0 (q := 7) C dJ1_charAt_3b067_6 rfl ?_
  refine r_il1 (q := 8) C dJ1_charAt_3b067_7 rfl ?_
  refine r_baldS (q := 9) (z := ((o_sch.getD i []).getD j 0)) C hi hj (by omega) s1q dJ1_charAt_3b067_8 rfl ?_
  refine r_sipush (q := 12) C dJ1_charAt_3b067_9 (by decide) rfl ?_
  refine r_iand (q := 13) (z := ((o_sch.getD i []).getD j 0)) C s2q dJ1_charAt_3b067_12 rfl ?_
  refine r_i2c (q := 14) C (by omega) dJ1_charAt_3b067_13 rfl ?_
  obtain ⟨cN, hcN⟩ : ∃ cN : Nat, ((o_sch.getD i []).getD j 0) = (cN : Int) := ⟨((o_sch.getD i []).getD j 0).toNat, by omega⟩
  exact r_tret C hr (by rw [hcN]; exact narrow_c cN (by omega)) dJ1_charAt_3b067_14 (by decide) (by decide) ⟨rfl, rfl, rfl⟩
set_option maxRecDepth 20000 in
set_option maxHeartbeats 8000000 in
theorem c_J0_charAt_5068e {G : oG} {b : Nat} {T : oT} {σ : oM} {i : Nat} (hi : i < 8) {j : Nat} (hj : j < o_slen.getD i 0) : MSg G b yJ0_charAt_5068e cJ0_charAt_5068e 2 (some FieldType.char) 3 0 0 64 ([oa (G.2.2.1 i), oi ((j : Nat) : Int)].map (oc b)) T σ (oP1 (oi ((o_sch.getD i []).getD j 0)) T σ) := by
  have hsb := o_slen_b i hi
  obtain ⟨s1q, s2q, s3q, s4q⟩ := o_sch_b i hi j (by omega) hj
  refine o_metG (by decide +kernel) (o_entry b [oa (G.2.2.1 i), oi ((j : Nat) : Int)] (Nat.le_refl _)) (fun p l ee s m args below meth c C hr hn => ?_)
  have C : oCx p s m args meth c G b RJ0 cJ0_charAt_5068e 2 := C
  show oW p l ee ({ frames := 3, cells := 0, slots := 0, locals := 64 } : Room) s m args below meth c G b 2 0 0 (MQ below (o_Qc G b (oP1 (oi ((o_sch.getD i []).getD j 0)) T σ)) args s 0 0 (fun q => b ≤ q)) T σ 0 [some (oa (G.2.2.1 i)), some (oi ((j : Nat) : Int))] []
  refine r_aal0 (q := 1) C dJ0_charAt_5068e_0 rfl ?_
  refine r_callA (q := 4) C hi (As := []) (c_J0_isLatin1_aae02 hi) m_J0_492 dJ0_charAt_5068e_1 rfl rfl (by decide) (by decide) (Nat.le_of_ble_eq_true rfl) (fun r2 T2 σ2 hq2 => ?_)
  obtain ⟨rfl, rfl, rfl⟩ := hq2
  refine r_ifeq_f (q := 16) (q2 := 7) C (by decide) (by omega) dJ0_charAt_5068e_4 (by decide) rfl ?_
  refine r_aal0 (q := 8) C dJ0_charAt_5068e_7 rfl ?_
  refine r_getV (q := 11) C hi (o_t6 221 rfl rfl) dJ0_charAt_5068e_8 rfl ?_
  refine r_il1 (q := 12) C dJ0_charAt_5068e_11 rfl ?_
  refine r_callG (q := 15) C (As := [oa (G.2.2.2 i), oi ((j : Nat) : Int)]) (c_J1_charAt_3b067 hi hj) m_J0_495 dJ0_charAt_5068e_12 rfl rfl (by decide) (by decide) (Nat.le_of_ble_eq_true rfl) (fun r2 T2 σ2 hq2 => ?_)
  obtain ⟨rfl, rfl, rfl⟩ := hq2
  obtain ⟨cN, hcN⟩ : ∃ cN : Nat, ((o_sch.getD i []).getD j 0) = (cN : Int) := ⟨((o_sch.getD i []).getD j 0).toNat, by omega⟩
  exact r_tret C hr (by rw [hcN]; exact narrow_c cN (by omega)) dJ0_charAt_5068e_15 (by decide) (by decide) ⟨rfl, rfl, rfl⟩
