/-! arrays of arrays -/
/-- N arrays of M numbers behind an array of them, new cells from T.1 on -/
def o_grid (T : oT) (N M : Nat) : oT := (T.1 + 1 + N, fun x => if x < T.1 then T.2.1 x else if x = T.1 then (16, N) else (10, M), fun x => if x < T.1 then T.2.2 x else if x = T.1 then (fun j => if j < N then some (T.1 + 1 + j) else none) else fun _ => none)
def o_grid0 (σ : oM) (a : Nat) : oM := fun x => if x < a then σ x else fun _ => 0
theorem o_outer (cA : ClassId) (N h0 : Nat) : ∀ i, Jvm.Free.Multi.outerC cA N h0 i = arrV cA N (fun j => if j < i then Value.ref (h0 + 1 + j) else .null)
  | 0 => by
    show ({ cls := cA, slots := Array.replicate N .null, vm := .none } : Cell) = _
    rw [arrV_new]
    congr 1
  | i + 1 => by
    show (Jvm.Free.Multi.outerC cA N h0 i).setSlot i (.ref (h0 + 1 + i)) = _
    rw [o_outer cA N h0 i, arrV_store]
    congr 1
    funext j
    unfold updV
    by_cases hj : j = i
    · rw [if_pos hj, if_pos (by omega), hj]
    · rw [if_neg hj]
      show (if j < i then Value.ref (h0 + 1 + j) else Value.null) = _
      by_cases hk : j < i
      · rw [if_pos hk, if_pos (by omega)]
      · rw [if_neg hk, if_neg (by omega)]
section OGR
variable {p : Program} {l : Launch} {e : Env} {R : Room} {s : State} {m : MethodId} {args : Array Value} {below : List Frame} {meth : Method} {c : Code} {G : oG} {b : Nat} {own : String} {cc : ByteArray} {nL k n pc q : Nat} {Q : State → Prop} {T : oT} {σ : oM} {ls : List (Option oV)} {st : List oV} {H H1 : Heap}
theorem o_W_grid {N M : Nat} (hW : o_W G b T σ H) (f1 : H1.size = H.size + 1 + N) (f2 : H1[H.size]? = some (arrV (G.1.2 16) N (fun j => if j < N then Value.ref (H.size + 1 + j) else .null))) (fo : ∀ x, x < H.size → H1[x]? = H[x]?) (fi : ∀ j, j < N → H1[H.size + 1 + j]? = some (arrV (G.1.2 10) M (fun _ => .int 0))) : o_W G b (o_grid T N M) (o_grid0 σ T.1) H1 := by
  have h1 := hW.1
  refine ⟨by show H1.size = b + (T.1 + 1 + N); omega, fun x hx => ?_, fun x hx => (fo x (by omega)).trans (hW.2.2 x hx)⟩
  have hx' : x < T.1 + 1 + N := hx
  show va_at G.1.1 o_cl (b + x, o_e G b (if x < T.1 then T.2.1 x else if x = T.1 then (16, N) else (10, M)) (if x < T.1 then T.2.2 x else if x = T.1 then (fun j => if j < N then some (T.1 + 1 + j) else none) else fun _ => none) (if x < T.1 then σ x else fun _ => 0)) H1
  by_cases h : x < T.1
  · rw [if_pos h, if_pos h, if_pos h]
    exact (hW.2.1 x h).kept (fo (b + x) (by omega))
  · rw [if_neg h, if_neg h, if_neg h]
    by_cases h2 : x = T.1
    · rw [if_pos h2, if_pos h2, h2]
      show H1[b + T.1]? = some (arrV (G.1.2 16) N (fun j => va_rf (Option.map (b + ·) (if j < N then some (T.1 + 1 + j) else none))))
      rw [show b + T.1 = H.size by omega, f2]
      congr 2
      funext j
      by_cases hj : j < N
      · rw [if_pos hj, if_pos hj, h1]
        exact congrArg Value.ref (show (b + T.1 + 1 + j : Nat) = b + (T.1 + 1 + j) by omega)
      · rw [if_neg hj, if_neg hj]
        rfl
    · rw [if_neg h2, if_neg h2]
      show H1[b + x]? = some (arrV (G.1.2 10) M (fun _ => .int (Int32.ofInt 0)))
      rw [show b + x = H.size + 1 + (x - T.1 - 1) by omega, fi _ (by omega)]
      rfl
theorem r_mna (C : oCx p s m args meth c G b own cc nL) {idx N M : Nat} {z w : Int} (w1 : Cond.classLink own idx "[[I" ∈ oALL) (hd : decode cc pc = .ok (.multianewarray idx 2, 4)) (hq : pc + 4 = q) (hN : N ≤ 1000) (hM : M ≤ 1000) (hz : z = (N : Int)) (hw : w = (M : Int)) (hr : k + (1 + N) ≤ R.cells ∧ n + (N + N * M) ≤ R.slots)
    (kk : oW p l e R s m args below meth c G b nL (k + 1 + N) (n + N + N * M) Q (o_grid T N M) (o_grid0 σ T.1) q ls (og T.1 :: st)) : oW p l e R s m args below meth c G b nL k n Q T σ pc ls (oi w :: oi z :: st) := by
  intro H locs la hW hS hl
  subst hq
  subst hz
  subst hw
  have hts := C.2.2.2.2.1
  have hK := C.2.2.2.2.2.1
  have hbo : c.code = cc := C.2.1
  subst hbo
  intro Ts hT X
  subst hT
  have cN : (Int32.ofInt (N : Int)).toNatClampNeg = N := o_clamp (by omega)
  have cM : (Int32.ofInt (M : Int)).toNatClampNeg = M := o_clamp (by omega)
  obtain ⟨vm₁, cA, comp, -, hfA, hfC, -, -, X1, st1⟩ := X.multianewarray2F C.1 (own := own) (index := idx) (ty := .int) C.2.2.2.1 (hts _ w1) hK.2.2.2.2.1 (hts _ (o_t1 96 rfl rfl)) (g := F0 m pc la ((oi (M : Int) :: oi (N : Int) :: st).map (oc b))) rfl hd rfl (by rw [o_lit0.symm, o_ltI ⟨by omega, by omega⟩ ⟨by omega, by omega⟩]; omega) (by rw [o_lit0.symm, o_ltI ⟨by omega, by omega⟩ ⟨by omega, by omega⟩]; omega) (by rw [cN]; omega) (by rw [cM]; show M * 4 ≤ _; omega) (by rw [cM]; omega) rfl rfl (by rw [cN]; exact hr.1) (by rw [cN, cM]; exact hr.2)
  rw [cN, cM] at X1 st1
  obtain ⟨f1, f2, f3, f4⟩ := Jvm.Free.Multi.fill_facts (Ts.setVm vm₁) cA comp N M (defaultValue .int) N
  have fo := fun (a : Addr) (ha : a < Ts.heap.size) => Jvm.Free.Multi.fill_old (Ts.setVm vm₁) cA comp N M (defaultValue .int) (a := a) ha N
  have fi := fun (j : Nat) (hj : j < N) => Jvm.Free.Multi.fill_inner (Ts.setVm vm₁) cA comp N M (defaultValue .int) N j hj
  have hA : cA = G.1.2 16 := Option.some.inj (hfA.symm.trans (hK.1.2 6 (G.1.2 16, .array .int) rfl).2)
  have hCo : comp = G.1.2 10 := Option.some.inj (hfC.symm.trans (hK.1.2 0 (G.1.2 10, .int) rfl).2)
  subst hA
  subst hCo
  rw [o_outer] at f2
  have hW1 : o_W G b (o_grid T N M) (o_grid0 σ T.1) _ := o_W_grid hW f1 f2 fo (fun j hj => (fi j hj).trans (congrArg some (arrV_new _ _ _)))
  obtain ⟨t, a1, b1⟩ := kk _ locs la hW1 ⟨Nat.le_trans hS.1 (by rw [f1]; exact Nat.le_trans (Nat.le_add_right _ _) (Nat.le_add_right _ _)), fun x h1 h2 => (fo x (Nat.lt_of_lt_of_le h1 hS.1)).trans (hS.2.1 x h1 h2), hS.2.2⟩ hl _ rfl X1
  refine ⟨t, st1 t ?_, b1⟩
  have hsz : Ts.heap.size = b + T.1 := hW.1
  rw [hsz]
  exact a1
end OGR
