section OMX
variable {p : Program} {l : Launch} {e : Env} {R : Room} {s : State} {m : MethodId} {args : Array Value} {below : List Frame} {meth : Method} {c : Code} {G : oG} {b : Nat} {own : String} {cc : ByteArray} {nL k n pc q : Nat} {Q : State → Prop} {T : oT} {σ : oM} {ls : List (Option oV)} {st : List oV}
theorem o_ifI {x y a d : Int} (hx : o_r x) (hy : o_r y) : (if Int32.ofInt x < Int32.ofInt y then Int32.ofInt a else Int32.ofInt d) = Int32.ofInt (if x < y then a else d) := by
  by_cases h : x < y
  · rw [if_pos h, if_pos ((o_ltI hx hy).mpr h)]
  · rw [if_neg h, if_neg (fun q => h ((o_ltI hx hy).mp q))]
theorem r_max (C : oCx p s m args meth c G b own cc nL) {idx : Nat} {x y z : Int} (hz : (if x < y then y else x) = z) (hx : o_r x) (hy : o_r y) (hw : Cond.methodLink own idx Lib.Math.max.name ∈ oALL ∧ Cond.static Lib.Math.max.name ∈ oALL ∧ Cond.initialized "java/lang/Math" ∈ oALL ∧ Cond.code Lib.Math.max.name Lib.Math.max.code 2 (some .int) ∈ oALL) (hd : decode cc pc = .ok (.invokestatic idx, 3)) (hq : pc + 3 = q) (hf : 1 ≤ R.frames) (hlo : st.length + 13 ≤ R.locals) (hr : k ≤ R.cells ∧ n ≤ R.slots) (kk : oW p l e R s m args below meth c G b nL k n Q T σ q ls (oi z :: st)) : oW p l e R s m args below meth c G b nL k n Q T σ pc ls (oi y :: oi x :: st) := by
  intro H locs la hW hS hl
  subst hq
  obtain ⟨h1, h2, h3, h4⟩ := hw
  have hts := C.2.2.2.2.1
  refine va_mmax C.1 C.2.1 (by rw [hl.1, C.2.2.1]) C.2.2.2.1 (hts _ h1) (hts _ h2) (hts _ h3) (hts _ h4) hf (by rw [oc_sum]; exact hlo) hr.1 hr.2 hd ?_
  rw [o_ifI hx hy, hz]
  exact kk H locs la hW hS hl
theorem r_min (C : oCx p s m args meth c G b own cc nL) {idx : Nat} {x y z : Int} (hz : (if y < x then y else x) = z) (hx : o_r x) (hy : o_r y) (hw : Cond.methodLink own idx Lib.Math.min.name ∈ oALL ∧ Cond.static Lib.Math.min.name ∈ oALL ∧ Cond.initialized "java/lang/Math" ∈ oALL ∧ Cond.code Lib.Math.min.name Lib.Math.min.code 2 (some .int) ∈ oALL) (hd : decode cc pc = .ok (.invokestatic idx, 3)) (hq : pc + 3 = q) (hf : 1 ≤ R.frames) (hlo : st.length + 13 ≤ R.locals) (hr : k ≤ R.cells ∧ n ≤ R.slots) (kk : oW p l e R s m args below meth c G b nL k n Q T σ q ls (oi z :: st)) : oW p l e R s m args below meth c G b nL k n Q T σ pc ls (oi y :: oi x :: st) := by
  intro H locs la hW hS hl
  subst hq
  obtain ⟨h1, h2, h3, h4⟩ := hw
  have hts := C.2.2.2.2.1
  refine va_mmin C.1 C.2.1 (by rw [hl.1, C.2.2.1]) C.2.2.2.1 (hts _ h1) (hts _ h2) (hts _ h3) (hts _ h4) hf (by rw [oc_sum]; exact hlo) hr.1 hr.2 hd ?_
  rw [o_ifI hy hx, hz]
  exact kk H locs la hW hS hl
end OMX
theorem w_X6_110 : Cond.methodLink RX6 110 Lib.Math.max.name ∈ oALL ∧ Cond.static Lib.Math.max.name ∈ oALL ∧ Cond.initialized "java/lang/Math" ∈ oALL ∧ Cond.code Lib.Math.max.name Lib.Math.max.code 2 (some .int) ∈ oALL := ⟨o_t4 16 rfl rfl, o_t4 17 rfl rfl, o_t1 13 rfl rfl, o_t4 18 rfl rfl⟩
theorem w_X6_116 : Cond.methodLink RX6 116 Lib.Math.min.name ∈ oALL ∧ Cond.static Lib.Math.min.name ∈ oALL ∧ Cond.initialized "java/lang/Math" ∈ oALL ∧ Cond.code Lib.Math.min.name Lib.Math.min.code 2 (some .int) ∈ oALL := ⟨o_t4 19 rfl rfl, o_t4 20 rfl rfl, o_t1 13 rfl rfl, o_t4 21 rfl rfl⟩
theorem w_X9_208 : Cond.methodLink RX9 208 Lib.Math.max.name ∈ oALL ∧ Cond.static Lib.Math.max.name ∈ oALL ∧ Cond.initialized "java/lang/Math" ∈ oALL ∧ Cond.code Lib.Math.max.name Lib.Math.max.code 2 (some .int) ∈ oALL := ⟨o_t6 80 rfl rfl, o_t4 17 rfl rfl, o_t1 13 rfl rfl, o_t4 18 rfl rfl⟩
theorem w_X9_213 : Cond.methodLink RX9 213 Lib.Math.min.name ∈ oALL ∧ Cond.static Lib.Math.min.name ∈ oALL ∧ Cond.initialized "java/lang/Math" ∈ oALL ∧ Cond.code Lib.Math.min.name Lib.Math.min.code 2 (some .int) ∈ oALL := ⟨o_t6 81 rfl rfl, o_t4 20 rfl rfl, o_t1 13 rfl rfl, o_t4 21 rfl rfl⟩
