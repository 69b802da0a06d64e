/-! rows for the law itself -/
theorem hpush_m {Lh : List (Nat → Int)} {A B : Nat → Int} (h : B ∈ hpush Lh A) : B ∈ Lh ∨ B = A := by
  unfold hpush at h
  rcases List.mem_append.mp h with q | q
  · by_cases hc : Lh.length = 8
    · rw [if_pos hc] at q
      exact Or.inl (List.mem_of_mem_drop q)
    · rw [if_neg hc] at q
      exact Or.inl q
  · exact Or.inr (List.mem_singleton.mp q)
section OLW
variable {p : Program} {l : Launch} {e : Env} {R : Room} {s : State} {m : MethodId} {args : Array Value} {below : List Frame} {meth : Method} {c : Code} {G : oG} {b : Nat} {own : String} {cc : ByteArray} {nL k n pc q : Nat} {Q : State → Prop} {T : oT} {σ : oM} {ls : List (Option oV)} {st : List oV}
theorem r_iceq_s (C : oCx p s m args meth c G b own cc nL) {x y off : Int} (hxy : x = y) (hd : decode cc pc = .ok (.if_icmp .eq off, 3)) (ht : (pc : Int) + off = (q : Int)) (kk : oW p l e R s m args below meth c G b nL k n Q T σ q ls st) : oW p l e R s m args below meth c G b nL k n Q T σ pc ls (oi y :: oi x :: st) := by
  intro H locs la hW hS hl
  subst hxy
  exact lv_icmp_eq C.1 C.2.1 hd ht (fun _ => kk H locs la hW hS hl) (fun h => absurd rfl h)
theorem i32_back (x : Int32) : Int32.ofInt x.toInt = x := Int32.ofInt_toInt x
theorem r_sld (C : oCx p s m args meth c G b own cc nL) {ad L j : Nat} {xs : Nat → Int32} {z : Int} (hX : va_X ad L xs s s.heap) (had : ad < b) (hj : j < L) (hL : L ≤ 1000000) (hz : z = (j : Int)) (hd : decode cc pc = .ok (.iaload, 1)) (hq : pc + 1 = q) (kk : oW p l e R s m args below meth c G b nL k n Q T σ q ls (oi (xs j).toInt :: st)) : oW p l e R s m args below meth c G b nL k n Q T σ pc ls (oi z :: oa ad :: st) := by
  intro H locs la hW hS hl
  subst hq
  subst hz
  have hb := C.2.2.2.2.2.2.1
  have h0 : oc b (oi (xs j).toInt) = .int (xs j) := congrArg Value.int (i32_back (xs j))
  have h1 := kk H locs la hW hS hl
  rw [List.map_cons, h0] at h1
  refine va_sld C.1 C.2.1 hX (Nat.lt_of_lt_of_le had hb) (Nat.not_le.mpr had) hS (i := Int32.ofInt (j : Int)) (o_vpin hj (by omega)) hd ?_
  rw [o_clamp (by omega)]
  exact h1
theorem r_slen (C : oCx p s m args meth c G b own cc nL) {ad L : Nat} {xs : Nat → Int32} (hX : va_X ad L xs s s.heap) (had : ad < b) (hd : decode cc pc = .ok (.arraylength, 1)) (hq : pc + 1 = q) (kk : oW p l e R s m args below meth c G b nL k n Q T σ q ls (oi (L : Int) :: st)) : oW p l e R s m args below meth c G b nL k n Q T σ pc ls (oa ad :: st) := by
  intro H locs la hW hS hl
  subst hq
  have hb := C.2.2.2.2.2.2.1
  have h1 := kk H locs la hW hS hl
  refine va_slen C.1 C.2.1 hX (Nat.lt_of_lt_of_le had hb) (Nat.not_le.mpr had) hS hd ?_
  rw [← Int32.ofInt_eq_ofNat]
  exact h1
end OLW
