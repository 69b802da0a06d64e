/-! bits of floats; calls of static methods of other classes -/
theorem o_cmp_self (ax : Int) : compare ax ax = Ordering.eq := by
  have e : compare ax ax = if ax < ax then Ordering.lt else if ax = ax then Ordering.eq else Ordering.gt := rfl
  rw [e, if_neg (Int.lt_irrefl _), if_pos rfl]
theorem fcmp_self {u : UInt32} {E : Nat} (hu : oPN u E) : FP.fcmp u u = some .eq := by
  have h1 := pn_dec hu
  generalize 8388608 + u.toNat % 8388608 = c1 at h1
  have he : FP.fcmp u u = FP.Core.order (.fin false c1 ((E : Int) - 150)) (.fin false c1 ((E : Int) - 150)) := by
    show FP.Core.order (FP.Core.decode o32 u.toNat) (FP.Core.decode o32 u.toNat) = _
    rw [h1]
  rw [he]
  unfold FP.Core.order FP.Core.signed FP.Core.inUnits
  simp only [Bool.false_eq_true, if_false]
  rw [o_cmp_self]
theorem fcz_self {u : UInt32} {E : Nat} (hu : oPN u E) : fcz .l u u = 0 := by
  unfold fcz
  rw [fcmp_self hu]
  rfl
theorem u_int (u : UInt32) : u.toInt32 = Int32.ofInt ((u.toNat : Nat) : Int) := by
  apply Int32.toBitVec_inj.mp
  rw [oi32]
  apply BitVec.eq_of_toNat_eq
  rw [BitVec.toNat_ofNat, Nat.mod_eq_of_lt u.toNat_lt]
  rfl
theorem o_metF {y : MethodName} {cc : ByteArray} {nL : Nat} {ret : Option FieldType} {fr mc ms lc : Nat} {As : List oV} {T : oT} {σ : oM} {Po : Option oV → oT → oM → Prop} (hy : plainFor y = true) (hn : As.length ≤ nL)
    (body : ∀ (p : Program) (l : Launch) (e : Env) (s : State) (m : MethodId) (args : Array Value) (below : List Frame) (meth : Method) (c : Code) (G : oG) (b : Nat), oCx p s m args meth c G b y.cls cc nL → meth.sig.returnType = ret → meth.name = y.name →
      oW p l e ({ frames := fr, cells := mc, slots := ms, locals := lc } : Room) s m args below meth c G b nL 0 0 (MQ below (o_Qc G b Po) args s mc ms (fun q => b ≤ q)) T σ 0 (o_args As nL) []) : MS y cc nL ret fr mc ms lc As T σ Po := by
  intro l G b
  refine MetFree.of_bodySF (code := cc) (maxLocals := nL) (ret := ret) hy ?_ ?_
  · intro args s m h hn
    obtain ⟨meth, c, h1, h2, h3, h4, h5, h6, -, -⟩ := Cond.code_spec hn (atoms_spec (ws := o_ws y cc nL ret) h _ List.mem_cons_self)
    exact ⟨meth, c, h1, h2, h3, h4, h5, h6⟩
  · intro p e s m args below meth c s₁ B hml hv _
    obtain ⟨rfl, hK, hW⟩ := hv
    have hts := atoms_spec (ws := o_ws y cc nL ret) B.pre
    have hC : oCx p s m _ meth c G b y.cls cc nL := ⟨B.exec, B.bytes, hml, findClass_of_methodNamed B.named, fun w h => hts w (List.mem_cons_of_mem _ h), hK, o_W.le hW, B.notSynchronized⟩
    have h := body p l e s m _ below meth c G b hC B.returns (name_of_methodNamed B.named B.method).1 s.heap [] _ hW va_S.rf (o_entry b As hn)
    rw [lg_entry_eq]
    have hh0 : s₁.heap = s.heap := by rw [B.state]; rfl
    obtain ⟨t, a1, o, b1, b2, b3⟩ := h s₁ hh0 (Stand.of_body B)
    exact ⟨t, o, a1, b1, b2, ⟨b3.1, b3.2⟩⟩
def o_MX (own : String) (idx : Nat) (y : MethodName) (cc : ByteArray) (nL : Nat) (ret : Option FieldType) (nA : Nat) : Prop :=
  (Cond.methodLink own idx y ∈ oALL ∧ Cond.static y ∈ oALL ∧ Cond.initialized y.cls ∈ oALL ∧ Cond.code y cc nL ret ∈ oALL) ∧ (y.cls ≠ "java/lang/invoke/MethodHandle" ∧ y.cls ≠ "java/lang/invoke/VarHandle" ∧ (parseMethodDescriptor y.desc).map (fun d => d.parameters.length) = some nA)
section OX
variable {p : Program} {l : Launch} {e : Env} {R : Room} {s : State} {m : MethodId} {args : Array Value} {below : List Frame} {meth : Method} {c : Code} {G : oG} {b : Nat} {own : String} {cc : ByteArray} {nL k n pc q : Nat} {Q : State → Prop} {T : oT} {σ : oM} {ls : List (Option oV)} {st stk : List oV}
theorem r_callX (C : oCx p s m args meth c G b own cc nL) {idx nL' fr mc ms lc : Nat} {y : MethodName} {cc' : ByteArray} {ret : Option FieldType} {As : List oV} {Po : Option oV → oT → oM → Prop} (hM : MS y cc' nL' ret fr mc ms lc As T σ Po) (F : o_MX own idx y cc' nL' ret As.length) (hd : decode cc pc = .ok (.invokestatic idx, 3)) (hq : pc + 3 = q) (hst : stk = As.reverse ++ st) (hR : fr + 1 ≤ R.frames ∧ 8 + (nL' + 11) + lc ≤ R.locals) (hr : k + mc ≤ R.cells ∧ n + ms ≤ R.slots) (hsl : st.length ≤ 8)
    (kk : ∀ (r : Option oV) (T' : oT) (σ' : oM), Po r T' σ' → oW p l e R s m args below meth c G b nL (k + mc) (n + ms) Q T' σ' q ls (r.toList ++ st)) : oW p l e R s m args below meth c G b nL k n Q T σ pc ls stk := by
  intro H locs la hW hS hl
  obtain ⟨⟨f1, f2, f3, f4⟩, hy⟩ := F
  have hts := C.2.2.2.2.1
  have run := va_runS (p := p) (l := l) (e := e) (R := R) (s := s) (m := m) (args := args) (below := below) (meth := meth) (c := c) (H := H) (locs := locs) (cells := k) (slots := n) (g := F0 m pc la (stk.map (oc b))) (As := As.map (oc b)) (rest := st.map (oc b)) (Ts := oALL) (own := own) (cc := cc) (nL := nL) ⟨C.1, C.2.1, C.2.2.1, C.2.2.2.1, hts⟩ (hM l G b) ⟨callB_of As.length hts (o_gws f4) rfl rfl rfl (hts _ f3) (hts _ f1) hy hR, hts _ f2⟩ ⟨o_blind, fun U hU hWU => ⟨rfl, o_K.warm hWU C.2.2.2.2.2.1, by rw [hU]; exact hW⟩⟩ rfl (by simp) hl.1 (by rw [hst]; simp [List.map_reverse]) (by rw [oc_sum]; show 2 * 0 + _ ≤ 8; omega) hd hr
  exact o_call run (fun x h => h) hW hS hl hq kk
theorem r_callX1 (C : oCx p s m args meth c G b own cc nL) {idx nL' fr lc : Nat} {y : MethodName} {cc' : ByteArray} {ret : Option FieldType} {As : List oV} {v : oV} (hM : MS y cc' nL' ret fr 0 0 lc As T σ (oP1 v T σ)) (F : o_MX own idx y cc' nL' ret As.length) (hd : decode cc pc = .ok (.invokestatic idx, 3)) (hq : pc + 3 = q) (hst : stk = As.reverse ++ st) (hR : fr + 1 ≤ R.frames ∧ 8 + (nL' + 11) + lc ≤ R.locals) (hr : k ≤ R.cells ∧ n ≤ R.slots) (hsl : st.length ≤ 8)
    (kk : oW p l e R s m args below meth c G b nL k n Q T σ q ls (v :: st)) : oW p l e R s m args below meth c G b nL k n Q T σ pc ls stk :=
  r_callX C hM F hd hq hst hR hr hsl (fun r T' σ' h => by obtain ⟨rfl, rfl, rfl⟩ := h; exact kk)
theorem r_rawb (C : oCx p s m args meth c G b own cc nL) {idx : Nat} {u : UInt32} (hw : Cond.methodLink own idx ⟨"java/lang/Float", "floatToRawIntBits", "(F)I"⟩ ∈ oALL ∧ Cond.native ⟨"java/lang/Float", "floatToRawIntBits", "(F)I"⟩ ∈ oALL ∧ Cond.static ⟨"java/lang/Float", "floatToRawIntBits", "(F)I"⟩ ∈ oALL ∧ Cond.initialized "java/lang/Float" ∈ oALL) (hd : decode cc pc = .ok (.invokestatic idx, 3)) (hq : pc + 3 = q) (hf : 1 ≤ R.frames) (hlo : st.length + 15 ≤ R.locals) (kk : oW p l e R s m args below meth c G b nL k n Q T σ q ls (oi ((u.toNat : Nat) : Int) :: st)) : oW p l e R s m args below meth c G b nL k n Q T σ pc ls (ofl u :: st) := by
  intro H locs la hW hS hl
  subst hq
  obtain ⟨h1, h2, h3, h4⟩ := hw
  have hts := C.2.2.2.2.1
  refine vn_f2i C.1 C.2.1 (by rw [hl.1, C.2.2.1]) C.2.2.2.1 (hts _ h1) (hts _ h2) (hts _ h3) (hts _ h4) hf (by rw [oc_sum]; exact hlo) hd ?_
  rw [u_int]
  exact kk H locs la hW hS hl
end OX
set_option maxRecDepth 20000 in
theorem m_JF_59 : o_MS RJxf58ca 59 yJxf58ca_isNaN_12338 cJxf58ca_isNaN_12338 1 (some FieldType.boolean) 1 := ⟨⟨o_t5 226 rfl rfl, o_t5 227 rfl rfl, o_t1 12 rfl rfl, o_t5 228 rfl rfl⟩, rfl, by decide, by decide, by decide⟩
set_option maxRecDepth 20000 in
theorem m_X9_180 : o_MX RX9 180 yJxf58ca_floatToIntBits_5c35a cJxf58ca_floatToIntBits_5c35a 1 (some FieldType.int) 1 := ⟨⟨o_t5 223 rfl rfl, o_t5 224 rfl rfl, o_t1 12 rfl rfl, o_t5 225 rfl rfl⟩, by decide, by decide, by decide⟩
set_option maxRecDepth 20000 in
theorem w_JF_74 : Cond.methodLink RJxf58ca 74 ⟨"java/lang/Float", "floatToRawIntBits", "(F)I"⟩ ∈ oALL ∧ Cond.native ⟨"java/lang/Float", "floatToRawIntBits", "(F)I"⟩ ∈ oALL ∧ Cond.static ⟨"java/lang/Float", "floatToRawIntBits", "(F)I"⟩ ∈ oALL ∧ Cond.initialized "java/lang/Float" ∈ oALL := ⟨o_t5 229 rfl rfl, o_t5 231 rfl rfl, o_t5 230 rfl rfl, o_t1 12 rfl rfl⟩
set_option maxRecDepth 20000 in
set_option maxHeartbeats 8000000 in
theorem c_Jxf58ca_isNaN_12338 {T : oT} {σ : oM} {ux : UInt32} {E : Nat} (hu : oPN ux E) : MS yJxf58ca_isNaN_12338 cJxf58ca_isNaN_12338 1 (some FieldType.boolean) 0 0 0 0 [ofl ux] T σ (oPb False T σ) := by
  refine o_metF (by decide +kernel) (Nat.le_of_ble_eq_true rfl) (fun p l ee s m args below meth c G b C hr hn => ?_)
  have C : oCx p s m args meth c G b RJxf58ca cJxf58ca_isNaN_12338 1 := C
  show oW p l ee ({ frames := 0, cells := 0, slots := 0, locals := 0 } : Room) s m args below meth c G b 1 0 0 (MQ below (o_Qc G b (oPb False T σ)) args s 0 0 (fun q => b ≤ q)) T σ 0 [some (ofl ux)] []
  refine r_fl0 (q := 1) C dJxf58ca_isNaN_12338_0 rfl ?_
  refine r_fl0 (q := 2) C dJxf58ca_isNaN_12338_1 rfl ?_
  refine r_fcmp (q := 3) (z := 0) C (by rw [fcz_z, fcz_self hu]) dJxf58ca_isNaN_12338_2 rfl ?_
  refine r_ifeq_t (q := 10) C rfl (by omega) dJxf58ca_isNaN_12338_3 (by decide) ?_
  refine r_iconst (q := 11) C dJxf58ca_isNaN_12338_10 rfl ?_
  exact r_zret C hr dJxf58ca_isNaN_12338_11 (by decide) (by decide) (by decide) ⟨Or.inr ⟨id, rfl⟩, rfl, rfl⟩
set_option maxRecDepth 20000 in
set_option maxHeartbeats 8000000 in
theorem c_Jxf58ca_floatToIntBits_5c35a {T : oT} {σ : oM} {ux : UInt32} {E : Nat} (hu : oPN ux E) : MS yJxf58ca_floatToIntBits_5c35a cJxf58ca_floatToIntBits_5c35a 1 (some FieldType.int) 1 0 0 30 [ofl ux] T σ (oP1 (oi ((ux.toNat : Nat) : Int)) T σ) := by
  refine o_metF (by decide +kernel) (Nat.le_of_ble_eq_true rfl) (fun p l ee s m args below meth c G b C hr hn => ?_)
  have C : oCx p s m args meth c G b RJxf58ca cJxf58ca_floatToIntBits_5c35a 1 := C
  show oW p l ee ({ frames := 1, cells := 0, slots := 0, locals := 30 } : Room) s m args below meth c G b 1 0 0 (MQ below (o_Qc G b (oP1 (oi ((ux.toNat : Nat) : Int)) T σ)) args s 0 0 (fun q => b ≤ q)) T σ 0 [some (ofl ux)] []
  refine r_fl0 (q := 1) C dJxf58ca_floatToIntBits_5c35a_0 rfl ?_
  refine r_callSb (q := 4) C (c_Jxf58ca_isNaN_12338 hu) m_JF_59 dJxf58ca_floatToIntBits_5c35a_1 rfl rfl (by decide) (by decide) (Nat.le_of_ble_eq_true rfl) (fun hb => hb.elim) (fun _ => ?_)
  refine r_ifne_f (q := 12) (q2 := 7) C (by decide) (by omega) dJxf58ca_floatToIntBits_5c35a_4 (by decide) rfl ?_
  refine r_fl0 (q := 8) C dJxf58ca_floatToIntBits_5c35a_7 rfl ?_
  refine r_rawb (q := 11) C w_JF_74 dJxf58ca_floatToIntBits_5c35a_8 rfl (by decide) (by decide) ?_
  exact r_iret C hr dJxf58ca_floatToIntBits_5c35a_11 (by decide) (by decide) ⟨rfl, rfl, rfl⟩
set_option maxRecDepth 20000 in
set_option maxHeartbeats 8000000 in
theorem c_X9_duration {T : oT} {σ : oM} {mC : Nat} (hM : oMm T mC) {Bd : Int} (hI : oI Bd (σ (mC + 1))) {eN fx tx : Nat} (heN : eN < nEd (σ (mC + 1))) (hfx : 1 ≤ fx) (hft : fx ≤ tx) (htx : tx ≤ nBr (σ (mC + 1)) eN) : MS yX9_duration cX9_duration 6 (some FieldType.float) 3 0 0 65 [og mC, oi ((eN : Nat) : Int), oi ((fx : Nat) : Int), oi ((tx : Nat) : Int)] T σ (oP1 (ofl (durF (dEd (σ (mC + 1)) eN) fx (tx + 1 - fx))) T σ) := by
  have hMc := hM
  obtain ⟨hM0, hMr0, hMr1, hMr2, hMr3, hMr8, hMr9, hMr10, hMr11, hMr13, hMr14, hMr15, hMr16, hMr17, hMr18, hMr19, hMr20, hMk1, hMk2, hMk3, hMk4, hMk5, hMk6, hMk7, hMk8, hMk9, hMk10, hMk11, hMk12, hMk13, hMk14, hMk15, hMk16, hMT⟩ := hMc
  have hI0 := hI.2.1
  have hI1 := hI.2.2.1
  have hI2 := hI.2.2.2.1
  have hIn := oI_n hI
  have hIB := hI.1
  have hIE := oI_b hI heN
  refine o_met (by decide +kernel) (Nat.le_of_ble_eq_true rfl) (fun p l ee s m args below meth c G b C hr hn => ?_)
  have C : oCx p s m args meth c G b RX9 cX9_duration 6 := C
  show oW p l ee ({ frames := 3, cells := 0, slots := 0, locals := 65 } : Room) s m args below meth c G b 6 0 0 (MQ below (o_Qc G b (oP1 (ofl (durF (dEd (σ (mC + 1)) eN) fx (tx + 1 - fx))) T σ)) args s 0 0 (fun q => b ≤ q)) T σ 0 [some (og mC), some (oi ((eN : Nat) : Int)), some (oi ((fx : Nat) : Int)), some (oi ((tx : Nat) : Int)), none, none] []
  have lp : ∀ (n : Nat) (kx : Nat), tx + 1 - (fx + kx) < n → (fx + kx ≤ tx + 1) → oW p l ee ({ frames := 3, cells := 0, slots := 0, locals := 65 } : Room) s m args below meth c G b 6 0 0 (MQ below (o_Qc G b (oP1 (ofl (durF (dEd (σ (mC + 1)) eN) fx (tx + 1 - fx))) T σ)) args s 0 0 (fun q => b ≤ q)) T σ 6 [some (og mC), some (oi ((eN : Nat) : Int)), some (oi ((fx : Nat) : Int)), some (oi ((tx : Nat) : Int)), some (ofl (durF (dEd (σ (mC + 1)) eN) fx kx)), some (oi ((fx + kx : Nat) : Int))] [] := by
    intro n
    induction n with
    | zero =>
      intro kx hms
      exact absurd hms (Nat.not_lt_zero _)
    | succ n ih =>
      intro kx hms h1
      refine r_il5 (q := 8) C dX9_duration_6 rfl ?_
      refine r_il3 (q := 9) C dX9_duration_8 rfl ?_
      refine r_icgt (q := 52) (q2 := 12) C (by omega) (by omega) dX9_duration_9 (by decide) rfl (fun br9 => ?_) (fun br9 => ?_)
      · refine r_fl4 (q := 54) C dX9_duration_52 rfl ?_
        exact r_fret C hr dX9_duration_54 (by decide) (by decide) ⟨by rw [show tx + 1 - fx = kx by omega], rfl, rfl⟩
      · have hbt1 := (hIE.1.2.2.2.2 (fx + kx) (by omega) (by omega)).2.2.1
        have hcx := cTempo_in (t := (fun j => (σ (mC + 1)) (193 + 813 * eN + 8 * j))) (n := fx + kx) (fun i i1 i2 => (hIE.1.2.2.2.2 i i1 (by omega)).2.2.2.1)
        have hbn := barD_n hbt1 hcx
        have hadd := edD_add (bts := (fun j => (σ (mC + 1)) (192 + 813 * eN + 8 * j))) (tms := (fun j => (σ (mC + 1)) (193 + 813 * eN + 8 * j))) (Bn := nBr (σ (mC + 1)) eN) (sx := fx) (n := kx) (by omega) (oIE_bt hIE.1).1 (oIE_bt hIE.1).2 (by omega) (by omega)
        refine r_fl4 (q := 14) C dX9_duration_12 rfl ?_
        refine r_al0 (q := 15) C dX9_duration_14 rfl ?_
        refine r_getR (q := 18) C f_X9_9 dX9_duration_15 rfl rfl (by assumption) (by assumption) (by omega) ?_
        refine r_il1 (q := 19) C dX9_duration_18 rfl ?_
        refine r_il5 (q := 21) C dX9_duration_19 rfl ?_
        refine r_callS1 (q := 24) C (c_X9_placeOf) m_X9_132 dX9_duration_21 rfl rfl (by decide) (by decide) (Nat.le_of_ble_eq_true rfl) ?_
        refine r_iconst (q := 25) C dX9_duration_24 rfl ?_
        refine r_iadd (q := 26) C dX9_duration_25 rfl ?_
        refine r_iald (q := 27) C ((192 + 813 * eN + 8 * (fx + kx))) dX9_duration_26 rfl (by assumption) (by omega) (by omega) (by omega) (by decide) ?_
        refine r_i2f (q := 28) C dX9_duration_27 rfl ?_
        refine r_ldcf (q := 30) C k_X9_174 dX9_duration_28 rfl ?_
        refine r_fmul (q := 31) C hbn.1 dX9_duration_30 rfl ?_
        refine r_al0 (q := 32) C dX9_duration_31 rfl ?_
        refine r_il1 (q := 33) C dX9_duration_32 rfl ?_
        refine r_il5 (q := 35) C dX9_duration_33 rfl ?_
        refine r_callV1 (q := 38) C (c_X9_tempoAt (fx := fx + kx) hM hI heN (by omega)) m_X9_152 (by assumption) (by omega) dX9_duration_35 rfl rfl (by decide) (by decide) (Nat.le_of_ble_eq_true rfl) ?_
        refine r_i2f (q := 39) C dX9_duration_38 rfl ?_
        refine r_ldcf (q := 41) C k_X9_175 dX9_duration_39 rfl ?_
        refine r_fdiv (q := 42) C hbn.2.1 dX9_duration_41 rfl ?_
        refine r_fdiv (q := 43) C (oPN_n32 hbn.2.2.choose_spec.1) dX9_duration_42 rfl ?_
        refine r_fadd (q := 44) C hadd dX9_duration_43 rfl ?_
        refine r_fs4 (q := 46) C dX9_duration_44 rfl (by decide) ?_
        refine r_iinc5 (q := 49) C dX9_duration_46 rfl (by decide) ?_
        refine r_goto (q := 6) C dX9_duration_49 (by decide) ?_
        exact ih (kx + 1) (by omega) (by omega)
  refine r_fconst0 (q := 1) C dX9_duration_0 rfl ?_
  refine r_fs4 (q := 3) C dX9_duration_1 rfl (by decide) ?_
  refine r_il2 (q := 4) C dX9_duration_3 rfl ?_
  refine r_is5 (q := 6) C dX9_duration_4 rfl (by decide) ?_
  exact lp _ 0 (Nat.lt_succ_self _) (by omega)
set_option maxRecDepth 20000 in
set_option maxHeartbeats 8000000 in
theorem c_X9_seconds {T : oT} {σ : oM} {mC : Nat} (hM : oMm T mC) {Bd : Int} (hI : oI Bd (σ (mC + 1))) {z v w : Int} (hz : o_r z) (hv : o_r v) (hw : o_r w) : MS yX9_seconds cX9_seconds 4 (some FieldType.int) 4 0 0 90 [og mC, oi z, oi v, oi w] T σ (oP1 (oi (fSeconds (σ (mC + 1)) z v w)) T σ) := by
  have hMc := hM
  obtain ⟨hM0, hMr0, hMr1, hMr2, hMr3, hMr8, hMr9, hMr10, hMr11, hMr13, hMr14, hMr15, hMr16, hMr17, hMr18, hMr19, hMr20, hMk1, hMk2, hMk3, hMk4, hMk5, hMk6, hMk7, hMk8, hMk9, hMk10, hMk11, hMk12, hMk13, hMk14, hMk15, hMk16, hMT⟩ := hMc
  have hI0 := hI.2.1
  have hI1 := hI.2.2.1
  have hI2 := hI.2.2.2.1
  have hIn := oI_n hI
  have hIB := hI.1
  refine o_met (by decide +kernel) (Nat.le_of_ble_eq_true rfl) (fun p l ee s m args below meth c G b C hr hn => ?_)
  have C : oCx p s m args meth c G b RX9 cX9_seconds 4 := C
  show oW p l ee ({ frames := 4, cells := 0, slots := 0, locals := 90 } : Room) s m args below meth c G b 4 0 0 (MQ below (o_Qc G b (oP1 (oi (fSeconds (σ (mC + 1)) z v w)) T σ)) args s 0 0 (fun q => b ≤ q)) T σ 0 [some (og mC), some (oi z), some (oi v), some (oi w)] []
  refine r_al0 (q := 1) C dX9_seconds_0 rfl ?_
  refine r_il1 (q := 2) C dX9_seconds_1 rfl ?_
  refine r_il2 (q := 3) C dX9_seconds_2 rfl ?_
  refine r_callVb (q := 6) C (c_X9_isBar hM hI (by omega) (by omega)) m_X9_135 (by assumption) (by omega) dX9_seconds_3 rfl rfl (by decide) (by decide) (Nat.le_of_ble_eq_true rfl) (fun br3 => ?_) (fun br3 => ?_)
  · refine r_ifeq_f (q := 18) (q2 := 9) C (by decide) (by omega) dX9_seconds_6 (by decide) rfl ?_
    refine r_al0 (q := 10) C dX9_seconds_9 rfl ?_
    refine r_il1 (q := 11) C dX9_seconds_10 rfl ?_
    refine r_il3 (q := 12) C dX9_seconds_11 rfl ?_
    refine r_callVb (q := 15) C (c_X9_isBar hM hI (by omega) (by omega)) m_X9_135 (by assumption) (by omega) dX9_seconds_12 rfl rfl (by decide) (by decide) (Nat.le_of_ble_eq_true rfl) (fun br12 => ?_) (fun br12 => ?_)
    · refine r_ifne_t (q := 20) C (by decide) (by omega) dX9_seconds_15 (by decide) ?_
      have hs := fSeconds.eq_1 (σ (mC + 1)) z v w
      rw [if_pos ⟨br3, br12⟩] at hs
      obtain ⟨eN, bN, rfl, rfl, heN, heN6, hbN1, hbN2, hbN9⟩ := isBr_n hI br3
      have hIE := oI_b hI heN
      have hIb := hIE.1.2.2.2.2 bN hbN1 hbN2
      obtain ⟨wN, rfl⟩ : ∃ wN : Nat, w = (wN : Int) := ⟨w.toNat, by have := br12.2; omega⟩
      have hwB := br12.2
      simp only [Int.toNat_natCast] at hs hwB
      refine r_il3 (q := 21) C dX9_seconds_20 rfl ?_
      refine r_il2 (q := 22) C dX9_seconds_21 rfl ?_
      refine r_icge (q := 30) (q2 := 25) C (by omega) (by omega) dX9_seconds_22 (by decide) rfl (fun br22 => ?_) (fun br22 => ?_)
      · rw [if_neg (by omega)] at hs
        obtain ⟨E, hpn, -, -⟩ := dur_pn (sx := bN) (n := wN - bN) hIE.1 (by omega) hbN1 (by omega)
        rw [show wN - bN + 1 = wN + 1 - bN by omega] at hpn
        refine r_al0 (q := 31) C dX9_seconds_30 rfl ?_
        refine r_il1 (q := 32) C dX9_seconds_31 rfl ?_
        refine r_il2 (q := 33) C dX9_seconds_32 rfl ?_
        refine r_il3 (q := 34) C dX9_seconds_33 rfl ?_
        refine r_callV1 (q := 37) C (c_X9_duration (fx := bN) (tx := wN) hM hI heN hbN1 (by omega) (by omega)) m_X9_176 (by assumption) (by omega) dX9_seconds_34 rfl rfl (by decide) (by decide) (Nat.le_of_ble_eq_true rfl) ?_
        refine r_callX1 (q := 40) C (c_Jxf58ca_floatToIntBits_5c35a hpn) m_X9_180 dX9_seconds_37 rfl rfl (by decide) (by decide) (Nat.le_of_ble_eq_true rfl) ?_
        exact r_iret C hr dX9_seconds_40 (by decide) (by decide) ⟨by rw [hs], rfl, rfl⟩
      · refine r_bipush (q := 27) C dX9_seconds_25 (by decide) rfl ?_
        refine r_goto (q := 40) C dX9_seconds_27 (by decide) ?_
        exact r_iret C hr dX9_seconds_40 (by decide) (by decide) ⟨by rw [hs, if_pos (by omega)], rfl, rfl⟩
    · refine r_ifne_f (q := 20) (q2 := 18) C (by decide) (by omega) dX9_seconds_15 (by decide) rfl ?_
      refine r_iconst (q := 19) C dX9_seconds_18 rfl ?_
      exact r_iret C hr dX9_seconds_19 (by decide) (by decide) ⟨by rw [fSeconds, if_neg (fun hc => br12 hc.2)], rfl, rfl⟩
  · refine r_ifeq_t (q := 18) C (by decide) (by omega) dX9_seconds_6 (by decide) ?_
    refine r_iconst (q := 19) C dX9_seconds_18 rfl ?_
    exact r_iret C hr dX9_seconds_19 (by decide) (by decide) ⟨by rw [fSeconds, if_neg (fun hc => br3 hc.1)], rfl, rfl⟩
set_option maxRecDepth 20000 in
set_option maxHeartbeats 8000000 in
theorem c_X9_length {T : oT} {σ : oM} {mC : Nat} (hM : oMm T mC) {Bd : Int} (hI : oI Bd (σ (mC + 1))) {z : Int} (hz : o_r z) : MS yX9_length cX9_length 2 (some FieldType.int) 4 0 0 90 [og mC, oi z] T σ (oP1 (oi (fLength (σ (mC + 1)) z)) T σ) := by
  have hMc := hM
  obtain ⟨hM0, hMr0, hMr1, hMr2, hMr3, hMr8, hMr9, hMr10, hMr11, hMr13, hMr14, hMr15, hMr16, hMr17, hMr18, hMr19, hMr20, hMk1, hMk2, hMk3, hMk4, hMk5, hMk6, hMk7, hMk8, hMk9, hMk10, hMk11, hMk12, hMk13, hMk14, hMk15, hMk16, hMT⟩ := hMc
  have hI0 := hI.2.1
  have hI1 := hI.2.2.1
  have hI2 := hI.2.2.2.1
  have hIn := oI_n hI
  have hIB := hI.1
  refine o_met (by decide +kernel) (Nat.le_of_ble_eq_true rfl) (fun p l ee s m args below meth c G b C hr hn => ?_)
  have C : oCx p s m args meth c G b RX9 cX9_length 2 := C
  show oW p l ee ({ frames := 4, cells := 0, slots := 0, locals := 90 } : Room) s m args below meth c G b 2 0 0 (MQ below (o_Qc G b (oP1 (oi (fLength (σ (mC + 1)) z)) T σ)) args s 0 0 (fun q => b ≤ q)) T σ 0 [some (og mC), some (oi z)] []
  refine r_al0 (q := 1) C dX9_length_0 rfl ?_
  refine r_il1 (q := 2) C dX9_length_1 rfl ?_
  refine r_callVb (q := 5) C (c_X9_isEdition hM hI (by omega)) m_X9_112 (by assumption) (by omega) dX9_length_2 rfl rfl (by decide) (by decide) (Nat.le_of_ble_eq_true rfl) (fun br2 => ?_) (fun br2 => ?_)
  · refine r_ifeq_f (q := 23) (q2 := 8) C (by decide) (by omega) dX9_length_5 (by decide) rfl ?_
    have hs := fLength.eq_1 (σ (mC + 1)) z
    rw [if_pos br2] at hs
    obtain ⟨eN, rfl, heN, heN6⟩ := isEd_n hI br2
    have hIE := oI_b hI heN
    simp only [Int.toNat_natCast] at hs
    refine r_al0 (q := 9) C dX9_length_8 rfl ?_
    refine r_il1 (q := 10) C dX9_length_9 rfl ?_
    refine r_iconst (q := 11) C dX9_length_10 rfl ?_
    refine r_al0 (q := 12) C dX9_length_11 rfl ?_
    refine r_il1 (q := 13) C dX9_length_12 rfl ?_
    refine r_callV1 (q := 16) C (c_X9_bars hM (by omega)) m_X9_116 (by assumption) (by omega) dX9_length_13 rfl rfl (by decide) (by decide) (Nat.le_of_ble_eq_true rfl) ?_
    rw [← hIE.2.1]
    refine r_callV1 (q := 19) C (c_X9_duration (fx := 1) (tx := nBr (σ (mC + 1)) eN) hM hI heN (by omega) (by omega) (by omega)) m_X9_176 (by assumption) (by omega) dX9_length_16 rfl rfl (by decide) (by decide) (Nat.le_of_ble_eq_true rfl) ?_
    rw [show nBr (σ (mC + 1)) eN + 1 - 1 = nBr (σ (mC + 1)) eN by omega]
    refine r_f2i (q := 20) (z := ((FP.f2i (durF (dEd (σ (mC + 1)) eN) 1 (nBr (σ (mC + 1)) eN))).toInt)) C ((Int32.ofInt_toInt _).symm) dX9_length_19 rfl ?_
    refine r_goto (q := 24) C dX9_length_20 (by decide) ?_
    exact r_iret C hr dX9_length_24 (by decide) (by decide) ⟨by rw [hs], rfl, rfl⟩
  · refine r_ifeq_t (q := 23) C (by decide) (by omega) dX9_length_5 (by decide) ?_
    refine r_iconst (q := 24) C dX9_length_23 rfl ?_
    exact r_iret C hr dX9_length_24 (by decide) (by decide) ⟨by rw [fLength, if_neg br2], rfl, rfl⟩
set_option maxRecDepth 20000 in
set_option maxHeartbeats 8000000 in
theorem c_X9_barAt {T : oT} {σ : oM} {mC : Nat} (hM : oMm T mC) {Bd : Int} (hI : oI Bd (σ (mC + 1))) {z v : Int} (hz : o_r z) (hv : o_r v) : MS yX9_barAt cX9_barAt 4 (some FieldType.int) 4 0 0 90 [og mC, oi z, oi v] T σ (oP1 (oi (fBarAt (σ (mC + 1)) z v)) T σ) := by
  have hMc := hM
  obtain ⟨hM0, hMr0, hMr1, hMr2, hMr3, hMr8, hMr9, hMr10, hMr11, hMr13, hMr14, hMr15, hMr16, hMr17, hMr18, hMr19, hMr20, hMk1, hMk2, hMk3, hMk4, hMk5, hMk6, hMk7, hMk8, hMk9, hMk10, hMk11, hMk12, hMk13, hMk14, hMk15, hMk16, hMT⟩ := hMc
  have hI0 := hI.2.1
  have hI1 := hI.2.2.1
  have hI2 := hI.2.2.2.1
  have hIn := oI_n hI
  have hIB := hI.1
  refine o_met (by decide +kernel) (Nat.le_of_ble_eq_true rfl) (fun p l ee s m args below meth c G b C hr hn => ?_)
  have C : oCx p s m args meth c G b RX9 cX9_barAt 4 := C
  show oW p l ee ({ frames := 4, cells := 0, slots := 0, locals := 90 } : Room) s m args below meth c G b 4 0 0 (MQ below (o_Qc G b (oP1 (oi (fBarAt (σ (mC + 1)) z v)) T σ)) args s 0 0 (fun q => b ≤ q)) T σ 0 [some (og mC), some (oi z), some (oi v), none] []
  refine r_al0 (q := 1) C dX9_barAt_0 rfl ?_
  refine r_il1 (q := 2) C dX9_barAt_1 rfl ?_
  refine r_callVb (q := 5) C (c_X9_isEdition hM hI (by omega)) m_X9_112 (by assumption) (by omega) dX9_barAt_2 rfl rfl (by decide) (by decide) (Nat.le_of_ble_eq_true rfl) (fun br2 => ?_) (fun br2 => ?_)
  · refine r_ifne_t (q := 10) C (by decide) (by omega) dX9_barAt_5 (by decide) ?_
    refine r_il2 (q := 11) C dX9_barAt_10 rfl ?_
    refine r_ifge (q := 17) (q2 := 14) C (by omega) dX9_barAt_11 (by decide) rfl (fun br11 => ?_) (fun br11 => ?_)
    · have hs := fBarAt.eq_1 (σ (mC + 1)) z v
      rw [if_pos br2] at hs
      obtain ⟨eN, rfl, heN, heN6⟩ := isEd_n hI br2
      have hIE := oI_b hI heN
      simp only [Int.toNat_natCast] at hs
      rw [if_neg (by omega)] at hs
      refine r_iconst (q := 18) C dX9_barAt_17 rfl ?_
      refine r_is3 (q := 19) C dX9_barAt_18 rfl (by decide) ?_
      have lp : ∀ (n : Nat) (jx : Nat), nBr (σ (mC + 1)) eN + 1 - jx < n → (1 ≤ jx ∧ jx ≤ nBr (σ (mC + 1)) eN + 1) → (fbF (dEd (σ (mC + 1)) eN) (FP.i2f (Int32.ofInt v)) (nBr (σ (mC + 1)) eN) 1 = fbF (dEd (σ (mC + 1)) eN) (FP.i2f (Int32.ofInt v)) (nBr (σ (mC + 1)) eN + 1 - jx) jx) → oW p l ee ({ frames := 4, cells := 0, slots := 0, locals := 90 } : Room) s m args below meth c G b 4 0 0 (MQ below (o_Qc G b (oP1 (oi (fBarAt (σ (mC + 1)) (eN : Int) v)) T σ)) args s 0 0 (fun q => b ≤ q)) T σ 19 [some (og mC), some (oi ((eN : Nat) : Int)), some (oi v), some (oi ((jx : Nat) : Int))] [] := by
        intro n
        induction n with
        | zero =>
          intro jx hms
          exact absurd hms (Nat.not_lt_zero _)
        | succ n ih =>
          intro jx hms h1 h2
          refine r_il3 (q := 20) C dX9_barAt_19 rfl ?_
          refine r_al0 (q := 21) C dX9_barAt_20 rfl ?_
          refine r_il1 (q := 22) C dX9_barAt_21 rfl ?_
          refine r_callV1 (q := 25) C (c_X9_bars hM (by omega)) m_X9_116 (by assumption) (by omega) dX9_barAt_22 rfl rfl (by decide) (by decide) (Nat.le_of_ble_eq_true rfl) ?_
          rw [← hIE.2.1]
          refine r_icgt (q := 49) (q2 := 28) C (by omega) (by omega) dX9_barAt_25 (by decide) rfl (fun br25 => ?_) (fun br25 => ?_)
          · refine r_bipush (q := 51) C dX9_barAt_49 (by decide) rfl ?_
            exact r_iret C hr dX9_barAt_51 (by decide) (by decide) ⟨by rw [hs, if_pos (by rw [h2, show nBr (σ (mC + 1)) eN + 1 - jx = 0 by omega]; rfl)], rfl, rfl⟩
          · refine r_al0 (q := 29) C dX9_barAt_28 rfl ?_
            refine r_il1 (q := 30) C dX9_barAt_29 rfl ?_
            refine r_iconst (q := 31) C dX9_barAt_30 rfl ?_
            refine r_il3 (q := 32) C dX9_barAt_31 rfl ?_
            refine r_callV1 (q := 35) C (c_X9_duration (fx := 1) (tx := jx) hM hI heN (by omega) (by omega) (by omega)) m_X9_176 (by assumption) (by omega) dX9_barAt_32 rfl rfl (by decide) (by decide) (Nat.le_of_ble_eq_true rfl) ?_
            rw [show jx + 1 - 1 = jx by omega]
            refine r_il2 (q := 36) C dX9_barAt_35 rfl ?_
            refine r_i2f (q := 37) C dX9_barAt_36 rfl ?_
            have hfz := fcz_in .l (durF (dEd (σ (mC + 1)) eN) 1 jx) (FP.i2f (Int32.ofInt v))
            refine r_fcmp (q := 38) (z := (fcz .l (durF (dEd (σ (mC + 1)) eN) 1 jx) (FP.i2f (Int32.ofInt v)))) C (fcz_z _ _ _) dX9_barAt_37 rfl ?_
            refine r_ifle (q := 43) (q2 := 41) C (by omega) dX9_barAt_38 (by decide) rfl (fun br38 => ?_) (fun br38 => ?_)
            · refine r_iinc3 (q := 46) C dX9_barAt_43 rfl (by decide) ?_
              refine r_goto (q := 19) C dX9_barAt_46 (by decide) ?_
              exact ih (jx + 1) (by omega) (by omega) (by rw [h2, show nBr (σ (mC + 1)) eN + 1 - jx = (nBr (σ (mC + 1)) eN - jx) + 1 by omega, fbF, if_neg (by omega), show nBr (σ (mC + 1)) eN + 1 - (jx + 1) = nBr (σ (mC + 1)) eN - jx by omega])
            · refine r_il3 (q := 42) C dX9_barAt_41 rfl ?_
              exact r_iret C hr dX9_barAt_42 (by decide) (by decide) ⟨by rw [hs, show fbF (dEd (σ (mC + 1)) eN) (FP.i2f (Int32.ofInt v)) (nBr (σ (mC + 1)) eN) 1 = jx by rw [h2, show nBr (σ (mC + 1)) eN + 1 - jx = (nBr (σ (mC + 1)) eN - jx) + 1 by omega, fbF, if_pos (by omega)], if_neg (by omega)], rfl, rfl⟩
      exact lp _ 1 (Nat.lt_succ_self _) (by omega) (by rw [show nBr (σ (mC + 1)) eN + 1 - 1 = nBr (σ (mC + 1)) eN by omega])
    · refine r_bipush (q := 16) C dX9_barAt_14 (by decide) rfl ?_
      exact r_iret C hr dX9_barAt_16 (by decide) (by decide) ⟨by rw [fBarAt, if_pos br2, if_pos (by omega)], rfl, rfl⟩
  · refine r_ifne_f (q := 10) (q2 := 8) C (by decide) (by omega) dX9_barAt_5 (by decide) rfl ?_
    refine r_iconst (q := 9) C dX9_barAt_8 rfl ?_
    exact r_iret C hr dX9_barAt_9 (by decide) (by decide) ⟨by rw [fBarAt, if_neg br2], rfl, rfl⟩
set_option maxRecDepth 20000 in
set_option maxHeartbeats 8000000 in
theorem c_X9_pace {T : oT} {σ : oM} {mC : Nat} (hM : oMm T mC) {Bd : Int} (hI : oI Bd (σ (mC + 1))) {z : Int} (hz : o_r z) : MS yX9_pace cX9_pace 4 (some FieldType.int) 4 0 0 90 [og mC, oi z] T σ (oP1 (oi (fPace (σ (mC + 1)) z)) T σ) := by
  have hMc := hM
  obtain ⟨hM0, hMr0, hMr1, hMr2, hMr3, hMr8, hMr9, hMr10, hMr11, hMr13, hMr14, hMr15, hMr16, hMr17, hMr18, hMr19, hMr20, hMk1, hMk2, hMk3, hMk4, hMk5, hMk6, hMk7, hMk8, hMk9, hMk10, hMk11, hMk12, hMk13, hMk14, hMk15, hMk16, hMT⟩ := hMc
  have hI0 := hI.2.1
  have hI1 := hI.2.2.1
  have hI2 := hI.2.2.2.1
  have hIn := oI_n hI
  have hIB := hI.1
  refine o_met (by decide +kernel) (Nat.le_of_ble_eq_true rfl) (fun p l ee s m args below meth c G b C hr hn => ?_)
  have C : oCx p s m args meth c G b RX9 cX9_pace 4 := C
  show oW p l ee ({ frames := 4, cells := 0, slots := 0, locals := 90 } : Room) s m args below meth c G b 4 0 0 (MQ below (o_Qc G b (oP1 (oi (fPace (σ (mC + 1)) z)) T σ)) args s 0 0 (fun q => b ≤ q)) T σ 0 [some (og mC), some (oi z), none, none] []
  refine r_al0 (q := 1) C dX9_pace_0 rfl ?_
  refine r_il1 (q := 2) C dX9_pace_1 rfl ?_
  refine r_callVb (q := 5) C (c_X9_isEdition hM hI (by omega)) m_X9_112 (by assumption) (by omega) dX9_pace_2 rfl rfl (by decide) (by decide) (Nat.le_of_ble_eq_true rfl) (fun br2 => ?_) (fun br2 => ?_)
  · refine r_ifne_t (q := 10) C (by decide) (by omega) dX9_pace_5 (by decide) ?_
    have hs := fPace.eq_1 (σ (mC + 1)) z
    rw [if_pos br2] at hs
    obtain ⟨eN, rfl, heN, heN6⟩ := isEd_n hI br2
    have hIE := oI_b hI heN
    simp only [Int.toNat_natCast] at hs
    obtain ⟨hpn1, E, hpn⟩ := pace_pn hIE.1 (by omega) (by omega)
    refine r_iconst (q := 11) C dX9_pace_10 rfl ?_
    refine r_is2 (q := 12) C dX9_pace_11 rfl (by decide) ?_
    refine r_iconst (q := 13) C dX9_pace_12 rfl ?_
    refine r_is3 (q := 14) C dX9_pace_13 rfl (by decide) ?_
    have lp : ∀ (n : Nat) (jx : Nat), nBr (σ (mC + 1)) eN + 1 - jx < n → (1 ≤ jx ∧ jx ≤ nBr (σ (mC + 1)) eN + 1) → oW p l ee ({ frames := 4, cells := 0, slots := 0, locals := 90 } : Room) s m args below meth c G b 4 0 0 (MQ below (o_Qc G b (oP1 (oi (fPace (σ (mC + 1)) (eN : Int))) T σ)) args s 0 0 (fun q => b ≤ q)) T σ 14 [some (og mC), some (oi ((eN : Nat) : Int)), some (oi (sumF (fun ix => (σ (mC + 1)) (192 + 813 * eN + 8 * (ix + 1))) (jx - 1))), some (oi ((jx : Nat) : Int))] [] := by
      intro n
      induction n with
      | zero =>
        intro jx hms
        exact absurd hms (Nat.not_lt_zero _)
      | succ n ih =>
        intro jx hms h1
        refine r_il3 (q := 15) C dX9_pace_14 rfl ?_
        refine r_al0 (q := 16) C dX9_pace_15 rfl ?_
        refine r_il1 (q := 17) C dX9_pace_16 rfl ?_
        refine r_callV1 (q := 20) C (c_X9_bars hM (by omega)) m_X9_116 (by assumption) (by omega) dX9_pace_17 rfl rfl (by decide) (by decide) (Nat.le_of_ble_eq_true rfl) ?_
        rw [← hIE.2.1]
        refine r_icgt (q := 44) (q2 := 23) C (by omega) (by omega) dX9_pace_20 (by decide) rfl (fun br20 => ?_) (fun br20 => ?_)
        · have e2 : sumF (fun ix => (σ (mC + 1)) (192 + 813 * eN + 8 * (ix + 1))) (jx - 1) = beatF (σ (mC + 1)) eN := by rw [show jx - 1 = nBr (σ (mC + 1)) eN by omega]; rfl
          rw [e2]
          refine r_il2 (q := 45) C dX9_pace_44 rfl ?_
          refine r_i2f (q := 46) C dX9_pace_45 rfl ?_
          refine r_ldcf (q := 48) C k_X9_174 dX9_pace_46 rfl ?_
          refine r_fmul (q := 49) C hpn1 dX9_pace_48 rfl ?_
          refine r_al0 (q := 50) C dX9_pace_49 rfl ?_
          refine r_il1 (q := 51) C dX9_pace_50 rfl ?_
          refine r_iconst (q := 52) C dX9_pace_51 rfl ?_
          refine r_al0 (q := 53) C dX9_pace_52 rfl ?_
          refine r_il1 (q := 54) C dX9_pace_53 rfl ?_
          refine r_callV1 (q := 57) C (c_X9_bars hM (by omega)) m_X9_116 (by assumption) (by omega) dX9_pace_54 rfl rfl (by decide) (by decide) (Nat.le_of_ble_eq_true rfl) ?_
          rw [← hIE.2.1]
          refine r_callV1 (q := 60) C (c_X9_duration (fx := 1) (tx := nBr (σ (mC + 1)) eN) hM hI heN (by omega) (by omega) (by omega)) m_X9_176 (by assumption) (by omega) dX9_pace_57 rfl rfl (by decide) (by decide) (Nat.le_of_ble_eq_true rfl) ?_
          rw [show nBr (σ (mC + 1)) eN + 1 - 1 = nBr (σ (mC + 1)) eN by omega]
          refine r_fdiv (q := 61) C (oPN_n32 hpn) dX9_pace_60 rfl ?_
          refine r_callX1 (q := 64) C (c_Jxf58ca_floatToIntBits_5c35a hpn) m_X9_180 dX9_pace_61 rfl rfl (by decide) (by decide) (Nat.le_of_ble_eq_true rfl) ?_
          exact r_iret C hr dX9_pace_64 (by decide) (by decide) ⟨by rw [hs], rfl, rfl⟩
        · refine r_il2 (q := 24) C dX9_pace_23 rfl ?_
          refine r_al0 (q := 25) C dX9_pace_24 rfl ?_
          refine r_getR (q := 28) C f_X9_9 dX9_pace_25 rfl rfl (by assumption) (by assumption) (by omega) ?_
          refine r_il1 (q := 29) C dX9_pace_28 rfl ?_
          refine r_il3 (q := 30) C dX9_pace_29 rfl ?_
          refine r_callS1 (q := 33) C (c_X9_placeOf) m_X9_132 dX9_pace_30 rfl rfl (by decide) (by decide) (Nat.le_of_ble_eq_true rfl) ?_
          refine r_iconst (q := 34) C dX9_pace_33 rfl ?_
          refine r_iadd (q := 35) C dX9_pace_34 rfl ?_
          refine r_iald (q := 36) C ((192 + 813 * eN + 8 * jx)) dX9_pace_35 rfl (by assumption) (by omega) (by omega) (by omega) (by decide) ?_
          refine r_iadd (q := 37) C dX9_pace_36 rfl ?_
          refine r_is2 (q := 38) C dX9_pace_37 rfl (by decide) ?_
          refine r_iinc3 (q := 41) C dX9_pace_38 rfl (by decide) ?_
          refine r_goto (q := 14) C dX9_pace_41 (by decide) ?_
          have e1 : sumF (fun ix => (σ (mC + 1)) (192 + 813 * eN + 8 * (ix + 1))) (jx - 1) + (σ (mC + 1)) (192 + 813 * eN + 8 * jx) = sumF (fun ix => (σ (mC + 1)) (192 + 813 * eN + 8 * (ix + 1))) (jx + 1 - 1) := by rw [show jx + 1 - 1 = (jx - 1) + 1 by omega, sumF, show jx - 1 + 1 = jx by omega]
          rw [e1]
          exact ih (jx + 1) (by omega) (by omega)
    exact lp _ 1 (Nat.lt_succ_self _) (by omega)
  · refine r_ifne_f (q := 10) (q2 := 8) C (by decide) (by omega) dX9_pace_5 (by decide) rfl ?_
    refine r_iconst (q := 9) C dX9_pace_8 rfl ?_
    exact r_iret C hr dX9_pace_9 (by decide) (by decide) ⟨by rw [fPace, if_neg br2], rfl, rfl⟩
