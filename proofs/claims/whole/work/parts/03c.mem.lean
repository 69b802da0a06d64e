/-! MY OWN LAYER, 3: memory rows and calls -/
def o_up (σ : oM) (a k : Nat) (z : Int) : oM := fun x j => if x = a ∧ j = k then z else σ x j
theorem o_up_ne {σ : oM} {a k x : Nat} {z : Int} (h : x ≠ a) : o_up σ a k z x = σ x := funext fun j => by simp [o_up, h]
theorem o_up_at {σ : oM} {a k : Nat} {z : Int} : o_up σ a k z a k = z := by simp [o_up]
theorem o_up_nj {σ : oM} {a k x j : Nat} {z : Int} (h : x ≠ a ∨ j ≠ k) : o_up σ a k z x j = σ x j := by
  unfold o_up
  rw [if_neg (fun q => h.elim (fun e => e q.1) (fun e => e q.2))]
/-- n places copied -/
def o_cp (σ : oM) (a0 sp a dp n : Nat) : oM := fun x j => if x = a ∧ dp ≤ j ∧ j < dp + n then σ a0 (sp + (j - dp)) else σ x j
def o_new (T : oT) (kd : Nat × Nat) : oT := (T.1 + 1, fun x => if x = T.1 then kd else T.2.1 x, fun x => if x = T.1 then fun _ => none else T.2.2 x)
def o_new0 (σ : oM) (a : Nat) : oM := fun x => if x = a then fun _ => 0 else σ x
def o_rup (ρ : Nat → Nat → Option Nat) (a k d : Nat) : Nat → Nat → Option Nat := fun x j => if x = a ∧ j = k then some d else ρ x j
def o_CF (ci : Nat) (Cn : String) (Tt : u_T) (N : Nat) : Prop := o_cl[ci]? = some (Cn, Tt, N) ∧ (∀ w ∈ u_ws Cn Tt N, w ∈ oALL) ∧ N = o_nf ci ∧ (∀ j, j < N → parseFieldDescriptor (Tt j).2.2.1 = some (o_tyf ci j)) ∧ (∀ a, a < N → ∀ b, b < N → a ≠ b → (Tt a).2.1 ≠ (Tt b).2.1) ∧ ci < 10
/-- field link idx of the owner leads to field k of kind ci -/
def o_F (own : String) (idx ci k : Nat) : Prop := ∃ (Cn : String) (Tt : u_T) (N : Nat), o_CF ci Cn Tt N ∧ Cond.fieldLink own idx (Tt k).1 (Tt k).2.1 (Tt k).2.2.1 ∈ oALL ∧ k < N
def o_FP (own : String) (idx ci k : Nat) (fin : Bool) : Prop := ∃ (Cn : String) (Tt : u_T) (N : Nat), o_CF ci Cn Tt N ∧ Cond.fieldLink own idx (Tt k).1 (Tt k).2.1 (Tt k).2.2.1 ∈ oALL ∧ k < N ∧ (Tt k).2.2.2 = fin ∧ (fin = true → (Tt k).1 = own)
theorem o_P1 {D : va_G} {cl : List vw_C} {q : Nat × va_E} {H : Heap} (h : va_at D cl q H) : va_P D cl [q] H := by
  intro k x hx
  have h0 : k < 1 := (List.getElem?_eq_some_iff.mp hx).1
  rw [show k = 0 by omega] at hx
  cases hx
  exact h
section OM
variable {p : Program} {l : Launch} {e : Env} {R : Room} {s : State} {m : MethodId} {args : Array Value} {below : List Frame} {meth : Method} {c : Code} {G : oG} {b : Nat} {own : String} {cc : ByteArray} {nL k n pc q : Nat} {Q : State → Prop} {T : oT} {σ : oM} {ls : List (Option oV)} {st : List oV} {H H' : Heap}
theorem o_obj {a ci x : Nat} (hW : o_W G b T σ H) (ha : a < T.1) (hs : T.2.1 a = (ci, x)) (h : ci < 10) : va_at G.1.1 o_cl (b + a, .inr (ci, o_fs b ci (T.2.2 a) (σ a))) H := by
  have h1 := hW.2.1 a ha
  rw [hs] at h1
  unfold o_e at h1
  rw [if_pos h] at h1
  exact h1
theorem o_arr {a kd x : Nat} (hW : o_W G b T σ H) (ha : a < T.1) (hs : T.2.1 a = (kd, x)) (h : ¬ kd < 10) (h2 : kd < 12) : va_at G.1.1 o_cl (b + a, .inl (G.1.2 kd, (x, .inl (fun j => Int32.ofInt (σ a j))))) H := by
  have h1 := hW.2.1 a ha
  rw [hs] at h1
  unfold o_e at h1
  rw [if_neg h, if_pos h2] at h1
  exact h1
theorem o_arrq {a kd x : Nat} (hW : o_W G b T σ H) (ha : a < T.1) (hs : T.2.1 a = (kd, x)) (h : ¬ kd < 10) (h2 : ¬ kd < 12) : va_at G.1.1 o_cl (b + a, .inl (G.1.2 kd, (x, .inr (.inr (.inr (.inr (fun j => (T.2.2 a j).map (b + ·)))))))) H := by
  have h1 := hW.2.1 a ha
  rw [hs] at h1
  unfold o_e at h1
  rw [if_neg h, if_neg h2] at h1
  exact h1
theorem o_W_ui {σ' : oM} {a : Nat} (hW : o_W G b T σ H) (ha : a < T.1) (hz : H'.size = H.size) (ho : ∀ x, x ≠ b + a → H'[x]? = H[x]?) (hσ : ∀ x, x ≠ a → σ' x = σ x) (hc : va_at G.1.1 o_cl (b + a, o_e G b (T.2.1 a) (T.2.2 a) (σ' a)) H') : o_W G b T σ' H' := by
  refine ⟨hz.trans hW.1, fun x hx => ?_, fun x hx => (ho x (by omega)).trans (hW.2.2 x hx)⟩
  by_cases h : x = a
  · subst h
    exact hc
  · rw [hσ x h]
    exact (hW.2.1 x hx).kept (ho (b + x) (by omega))
theorem o_W_ur {ρ' : Nat → Nat → Option Nat} {a : Nat} (hW : o_W G b T σ H) (ha : a < T.1) (hz : H'.size = H.size) (ho : ∀ x, x ≠ b + a → H'[x]? = H[x]?) (hσ : ∀ x, x ≠ a → ρ' x = T.2.2 x) (hc : va_at G.1.1 o_cl (b + a, o_e G b (T.2.1 a) (ρ' a) (σ a)) H') : o_W G b (T.1, T.2.1, ρ') σ H' := by
  refine ⟨hz.trans hW.1, fun x hx => ?_, fun x hx => (ho x (by omega)).trans (hW.2.2 x hx)⟩
  by_cases h : x = a
  · subst h
    exact hc
  · show va_at G.1.1 o_cl (b + x, o_e G b (T.2.1 x) (ρ' x) (σ x)) H'
    rw [hσ x h]
    exact (hW.2.1 x hx).kept (ho (b + x) (by omega))
theorem o_W_new {kd : Nat × Nat} (hW : o_W G b T σ H) (hz : H'.size = H.size + 1) (ho : ∀ x, x < H.size → H'[x]? = H[x]?) (hc : va_at G.1.1 o_cl (b + T.1, o_e G b kd (fun _ => none) (fun _ => 0)) H') : o_W G b (o_new T kd) (o_new0 σ T.1) H' := by
  have h1 := hW.1
  refine ⟨by show H'.size = b + (T.1 + 1); omega, fun x hx => ?_, fun x hx => (ho x (by omega)).trans (hW.2.2 x hx)⟩
  have hx' : x < T.1 + 1 := hx
  show va_at G.1.1 o_cl (b + x, o_e G b (if x = T.1 then kd else T.2.1 x) (if x = T.1 then fun _ => none else T.2.2 x) (if x = T.1 then fun _ => 0 else σ x)) H'
  by_cases h : x = T.1
  · rw [if_pos h, if_pos h, if_pos h, h]
    exact hc
  · rw [if_neg h, if_neg h, if_neg h]
    exact (hW.2.1 x (by omega)).kept (ho (b + x) (by omega))
theorem r_getI (C : oCx p s m args meth c G b own cc nL) {idx ci f a x : Nat} (F : o_F own idx ci f) (hd : decode cc pc = .ok (.getfield idx, 3)) (hq : pc + 3 = q) (hi : (o_tyf ci f).isReference = false) (hs : T.2.1 a = (ci, x)) (ha : a < T.1) (kk : oW p l e R s m args below meth c G b nL k n Q T σ q ls (oi (σ a f) :: st)) : oW p l e R s m args below meth c G b nL k n Q T σ pc ls (og a :: st) := by
  intro H locs la hW hS hl
  subst hq
  obtain ⟨Cn, Tt, N, ⟨hc, hin, hN, hp, hnm, h10⟩, hlink, hk⟩ := F
  refine va_get (D := G.1.1) (cl := o_cl) (ws := [(b + a, .inr (ci, o_fs b ci (T.2.2 a) (σ a)))]) (tys := o_tys G) C.1 C.2.1 C.2.2.2.2.1 hin C.2.2.2.1 C.2.2.2.2.2.1.1 (o_P1 (o_obj hW ha hs h10)) 0 rfl hc f hk (C.2.2.2.2.1 _ hlink) (fun _ h => h) (v := .int (Int32.ofInt (σ a f))) ?_ hd (kk H locs la hW hS hl)
  rw [o_fs_get (by rw [← hN]; exact hk)]
  unfold o_fv
  rw [hi]
  rfl
theorem r_getR (C : oCx p s m args meth c G b own cc nL) {idx ci f a d x : Nat} (F : o_F own idx ci f) (hd : decode cc pc = .ok (.getfield idx, 3)) (hq : pc + 3 = q) (hi : (o_tyf ci f).isReference = true) (hr : T.2.2 a f = some d) (hs : T.2.1 a = (ci, x)) (ha : a < T.1) (kk : oW p l e R s m args below meth c G b nL k n Q T σ q ls (og d :: st)) : oW p l e R s m args below meth c G b nL k n Q T σ pc ls (og a :: st) := by
  intro H locs la hW hS hl
  subst hq
  obtain ⟨Cn, Tt, N, ⟨hc, hin, hN, hp, hnm, h10⟩, hlink, hk⟩ := F
  refine va_get (D := G.1.1) (cl := o_cl) (ws := [(b + a, .inr (ci, o_fs b ci (T.2.2 a) (σ a)))]) (tys := o_tys G) C.1 C.2.1 C.2.2.2.2.1 hin C.2.2.2.1 C.2.2.2.2.2.1.1 (o_P1 (o_obj hW ha hs h10)) 0 rfl hc f hk (C.2.2.2.2.1 _ hlink) (fun _ h => h) (v := .ref (b + d)) ?_ hd (kk H locs la hW hS hl)
  rw [o_fs_get (by rw [← hN]; exact hk)]
  unfold o_fv
  rw [hi, hr]
  rfl
/-- what a store of an int into a field makes of the world -/
theorem o_putat {a ci x f : Nat} {z : Int} {cell : Cell} {Cn : String} {Tt : u_T} {N : Nat} (hCF : o_CF ci Cn Tt N) (hf : f < N) (hi : (o_tyf ci f).isReference = false) (hs : T.2.1 a = (ci, x)) (h1 : H'[b + a]? = some cell) (h2 : cell.cls = G.1.1.1 ci) (h3 : cell.vm = .none) (h4 : ∀ j, j < N → cell.slots[G.1.1.2 ci j]? = some (updV (vp_V (o_fs b ci (T.2.2 a) (σ a))) f (.int (Int32.ofInt z)) j)) : va_at G.1.1 o_cl (b + a, o_e G b (T.2.1 a) (T.2.2 a) (o_up σ a f z a)) H' := by
  obtain ⟨hc, hin, hN, hp, hnm, h10⟩ := hCF
  rw [hs]
  unfold o_e
  rw [if_pos h10]
  refine ⟨_, hc, cell, h1, h2, h3, fun j hj => ?_⟩
  have hj : j < N := hj
  rw [h4 j hj, o_fs_V (by rw [← hN]; exact hj)]
  unfold updV
  by_cases e : j = f
  · subst e
    rw [if_pos rfl]
    unfold o_fv
    rw [hi, if_neg (by decide), o_up_at]
  · rw [if_neg e, o_fs_V (by rw [← hN]; exact hj)]
    unfold o_fv
    rw [o_up_nj (Or.inr e)]
theorem r_putV (C : oCx p s m args meth c G b own cc nL) {idx ci f a x : Nat} {z : Int} (F : o_FP own idx ci f false) (hd : decode cc pc = .ok (.putfield idx, 3)) (hq : pc + 3 = q) (hi : (o_tyf ci f).isReference = false) (hn : narrow (o_tyf ci f) (.int (Int32.ofInt z)) = .int (Int32.ofInt z)) (hfit : fits (o_tyf ci f) (.int (Int32.ofInt z)) = true) (hs : T.2.1 a = (ci, x)) (ha : a < T.1) (kk : oW p l e R s m args below meth c G b nL k n Q T (o_up σ a f z) q ls st) : oW p l e R s m args below meth c G b nL k n Q T σ pc ls (oi z :: og a :: st) := by
  intro H locs la hW hS hl
  subst hq
  obtain ⟨Cn, Tt, N, hCF, hlink, hk, hfin, -⟩ := F
  obtain ⟨hc, hin, hN, hp, hnm, h10⟩ := id hCF
  have hts := C.2.2.2.2.1
  have hKv := C.2.2.2.2.2.1.1
  have hap := va_apart (own := own) hts hin (o_tyf ci) hp hnm hKv hc
  obtain ⟨r, h1, cell, q1, q2, q3, q4⟩ := o_obj hW ha hs h10
  have hr : r = (Cn, Tt, N) := Option.some.inj (h1.symm.trans hc)
  subst hr
  obtain ⟨hSl, hfc, kC, hkC, hkind⟩ := hKv.1 ci _ hc
  obtain ⟨cf, kf, fi, fd, hi2, hsl⟩ := hSl f hk
  have hlay := hts _ (hin _ (u_in_lay hk))
  unfold u_lay at hlay
  rw [if_neg (by rw [hfin]; decide)] at hlay
  have hst := (u_facts hfc hkC (u_lays hts hin hk) hi2).1
  have h6 := u_store hfc hkC hkind hlay hi2 (hp f hk) hn hfit
  refine W.putK C.1 C.2.1 (f := fd) ⟨C.2.2.2.1, hts _ hlink, ⟨_, _, _, hi2⟩, hst⟩ (by rw [q2]; exact h6) q1 q3 (by rw [hsl]; exact k2_hasslot (q4 f hk)) rfl rfl hd fun H' e1 e2 e3 => ?_
  rw [hsl] at e1 ⊢
  refine kk H' _ la ?_ (hS.put e2 e3 (by show b ≤ b + a; omega)) hl
  exact o_W_ui hW ha e2 e3 (fun y hy => o_up_ne hy) (o_putat hCF hk hi hs e1 q2 q3 (t_set q4 hap hk _))
theorem r_putI (C : oCx p s m args meth c G b own cc nL) {idx ci f a x : Nat} {z : Int} (F : o_FP own idx ci f false) (hd : decode cc pc = .ok (.putfield idx, 3)) (hq : pc + 3 = q) (hi : o_tyf ci f = .int) (hs : T.2.1 a = (ci, x)) (ha : a < T.1) (kk : oW p l e R s m args below meth c G b nL k n Q T (o_up σ a f z) q ls st) : oW p l e R s m args below meth c G b nL k n Q T σ pc ls (oi z :: og a :: st) :=
  r_putV C F hd hq (by rw [hi]; rfl) (by rw [hi]; rfl) (by rw [hi]; rfl) hs ha kk
theorem r_putZ (C : oCx p s m args meth c G b own cc nL) {idx ci f a x : Nat} {z : Int} (F : o_FP own idx ci f false) (hd : decode cc pc = .ok (.putfield idx, 3)) (hq : pc + 3 = q) (hi : o_tyf ci f = .boolean) (hz : z = 0 ∨ z = 1) (hs : T.2.1 a = (ci, x)) (ha : a < T.1) (kk : oW p l e R s m args below meth c G b nL k n Q T (o_up σ a f z) q ls st) : oW p l e R s m args below meth c G b nL k n Q T σ pc ls (oi z :: og a :: st) :=
  r_putV C F hd hq (by rw [hi]; rfl) (by rw [hi]; rcases hz with rfl | rfl <;> rfl) (by rw [hi]; rcases hz with rfl | rfl <;> rfl) hs ha kk
/-- a final reference, in the constructor -/
theorem r_putR (C : oCx p s m args meth c G b own cc nL) {idx ci f a d x : Nat} (F : o_FP own idx ci f true) (hd : decode cc pc = .ok (.putfield idx, 3)) (hq : pc + 3 = q) (hi : (o_tyf ci f).isReference = true) (hm : meth.name = "<init>") (hn : narrow (o_tyf ci f) (.ref (b + d)) = .ref (b + d)) (hfit : fits (o_tyf ci f) (.ref (b + d)) = true) (hs : T.2.1 a = (ci, x)) (ha : a < T.1) (kk : oW p l e R s m args below meth c G b nL k n Q (T.1, T.2.1, o_rup T.2.2 a f d) σ q ls st) : oW p l e R s m args below meth c G b nL k n Q T σ pc ls (og d :: og a :: st) := by
  intro H locs la hW hS hl
  subst hq
  obtain ⟨Cn, Tt, N, hCF, hlink, hk, hfin, hdecl⟩ := F
  obtain ⟨hc, hin, hN, hp, hnm, h10⟩ := id hCF
  have hts := C.2.2.2.2.1
  have hKv := C.2.2.2.2.2.1.1
  have hap := va_apart (own := own) hts hin (o_tyf ci) hp hnm hKv hc
  obtain ⟨r, h1, cell, q1, q2, q3, q4⟩ := o_obj hW ha hs h10
  have hr : r = (Cn, Tt, N) := Option.some.inj (h1.symm.trans hc)
  subst hr
  obtain ⟨hSl, hfc, kC, hkC, hkind⟩ := hKv.1 ci _ hc
  obtain ⟨cf, kf, fi, fd, hi2, hsl⟩ := hSl f hk
  have hlay := hts _ (hin _ (u_in_lay hk))
  unfold u_lay at hlay
  rw [if_pos hfin] at hlay
  have hst := (u_facts hfc hkC (u_lays hts hin hk) hi2).1
  have hcf : m.cls = cf := by
    obtain ⟨_, _, c', _, _, _, -, -, hf', -, -, -, hown2, -⟩ := Cond.laysFinal_spec hlay
    have e1 : c' = cf := by have := hi2.symm.trans hf'; simp at this; exact this.1.symm
    rw [hdecl rfl] at hown2
    rw [← e1]; exact Option.some.inj (C.2.2.2.1.symm.trans hown2)
  have h6 := u_fits hfc hkC hkind (Or.inr hlay) hi2 (hp f hk) hn hfit
  refine W.putFinK C.1 C.2.1 C.2.2.2.1 (hts _ hlink) hi2 hst hcf hm (by rw [q2]; exact h6) q1 q3 (by rw [hsl]; exact k2_hasslot (q4 f hk)) rfl rfl hd fun H' e1 e2 e3 => ?_
  rw [hsl] at e1 ⊢
  refine kk H' _ la ?_ (hS.put e2 e3 (by show b ≤ b + a; omega)) hl
  refine o_W_ur hW ha e2 e3 (fun y hy => funext fun j => by simp [o_rup, hy]) ?_
  rw [hs]
  unfold o_e
  rw [if_pos h10]
  refine ⟨_, hc, _, e1, q2, q3, fun j hj => ?_⟩
  have hj : j < N := hj
  rw [t_set q4 hap hk _ j hj, o_fs_V (by rw [← hN]; exact hj)]
  unfold updV
  by_cases ej : j = f
  · subst ej
    rw [if_pos rfl]
    unfold o_fv
    rw [hi, if_pos rfl]
    simp only [o_rup, and_self, if_true, va_rf, Option.map]
    rfl
  · rw [if_neg ej, o_fs_V (by rw [← hN]; exact hj)]
    unfold o_fv
    simp [o_rup, ej]
/-! arrays -/
theorem o_aty {kd : Nat} {ty : FieldType} (C : oCx p s m args meth c G b own cc nL) (h : (o_tys G)[kd - 10]? = some (G.1.2 kd, ty)) : ArrOfT s (G.1.2 kd) ty := (C.2.2.2.2.2.1.1.2 _ _ h).1
theorem r_iald (C : oCx p s m args meth c G b own cc nL) {a len : Nat} {z : Int} (j : Nat) (hd : decode cc pc = .ok (.iaload, 1)) (hq : pc + 1 = q) (hs : T.2.1 a = (10, len)) (ha : a < T.1) (hz : z = (j : Int)) (hj : j < len) (hlen : len ≤ 1000000) (kk : oW p l e R s m args below meth c G b nL k n Q T σ q ls (oi (σ a j) :: st)) : oW p l e R s m args below meth c G b nL k n Q T σ pc ls (oi z :: og a :: st) := by
  intro H locs la hW hS hl
  subst hq
  subst hz
  have h1 := va_iald (p := p) (l := l) (e := e) (R := R) (s := s) (m := m) (args := args) (below := below) (meth := meth) (c := c) (D := G.1.1) (cl := o_cl) (ws := [(b + a, .inl (G.1.2 10, (len, .inl (fun j => Int32.ofInt (σ a j)))))]) (tys := o_tys G) (rest := st.map (oc b)) (ls := la) (cells := k) (slots := n) (locs := locs) (Q := Q) C.1 C.2.1 C.2.2.2.2.2.1.1 (o_P1 (o_arr hW ha hs (by decide) (by decide))) 0 0 rfl rfl (i := Int32.ofInt (j : Int)) (o_vpin hj (by omega)) hd
  rw [o_clamp (by omega)] at h1
  exact h1 (kk H locs la hW hS hl)
theorem r_cald (C : oCx p s m args meth c G b own cc nL) {a len : Nat} {z : Int} (j : Nat) (hd : decode cc pc = .ok (.caload, 1)) (hq : pc + 1 = q) (hs : T.2.1 a = (11, len)) (ha : a < T.1) (hz : z = (j : Int)) (hj : j < len) (hlen : len ≤ 1000000) (kk : oW p l e R s m args below meth c G b nL k n Q T σ q ls (oi (σ a j) :: st)) : oW p l e R s m args below meth c G b nL k n Q T σ pc ls (oi z :: og a :: st) := by
  intro H locs la hW hS hl
  subst hq
  subst hz
  have h1 := va_cald (p := p) (l := l) (e := e) (R := R) (s := s) (m := m) (args := args) (below := below) (meth := meth) (c := c) (D := G.1.1) (cl := o_cl) (ws := [(b + a, .inl (G.1.2 11, (len, .inl (fun j => Int32.ofInt (σ a j)))))]) (tys := o_tys G) (rest := st.map (oc b)) (ls := la) (cells := k) (slots := n) (locs := locs) (Q := Q) C.1 C.2.1 C.2.2.2.2.2.1.1 (o_P1 (o_arr hW ha hs (by decide) (by decide))) 0 1 rfl rfl (i := Int32.ofInt (j : Int)) (o_vpin hj (by omega)) hd
  rw [o_clamp (by omega)] at h1
  exact h1 (kk H locs la hW hS hl)
theorem r_aald (C : oCx p s m args meth c G b own cc nL) {a kd len d : Nat} {z : Int} {ty : FieldType} (j : Nat) (hd : decode cc pc = .ok (.aaload, 1)) (hq : pc + 1 = q) (hs : T.2.1 a = (kd, len)) (ha : a < T.1) (hz : z = (j : Int)) (hj : j < len) (hlen : len ≤ 1000000) (hr : T.2.2 a j = some d) (hty : (o_tys G)[kd - 10]? = some (G.1.2 kd, ty)) (hir : ty.isReference = true) (h10 : ¬ kd < 10) (h12 : ¬ kd < 12) (kk : oW p l e R s m args below meth c G b nL k n Q T σ q ls (og d :: st)) : oW p l e R s m args below meth c G b nL k n Q T σ pc ls (oi z :: og a :: st) := by
  intro H locs la hW hS hl
  subst hq
  subst hz
  have hin := o_vpin hj (show len ≤ 2147483647 by omega)
  have e1 : (arrV (G.1.2 kd) len (fun j => va_rf ((T.2.2 a j).map (b + ·)))).slots[(Int32.ofInt (j : Int)).toNatClampNeg]? = some (.ref (b + d)) := by
    rw [o_clamp (by omega), arrV_read _ _ hj, hr]
    rfl
  exact W.aald (v := .ref (b + d)) (ty := ty) C.1 C.2.1 (o_arrq hW ha hs h10 h12) (o_aty C hty _ _) hir (fun q => by cases q) (by show ¬ ((Int32.ofInt (j : Int)) < 0 ∨ (arrV _ _ _).slots.size ≤ _); rw [arrV_size]; exact hin) e1 rfl rfl hd (kk H locs la hW hS hl)
theorem r_iast (C : oCx p s m args meth c G b own cc nL) {a len : Nat} {z v : Int} (j : Nat) (hd : decode cc pc = .ok (.iastore, 1)) (hq : pc + 1 = q) (hs : T.2.1 a = (10, len)) (ha : a < T.1) (hz : z = (j : Int)) (hj : j < len) (hlen : len ≤ 1000000) (kk : oW p l e R s m args below meth c G b nL k n Q T (o_up σ a j v) q ls st) : oW p l e R s m args below meth c G b nL k n Q T σ pc ls (oi v :: oi z :: og a :: st) := by
  intro H locs la hW hS hl
  subst hq
  subst hz
  have hin := o_vpin hj (show len ≤ 2147483647 by omega)
  refine W.iast C.1 C.2.1 (o_arr hW ha hs (by decide) (by decide)) (o_aty (kd := 10) (ty := .int) C rfl len (fun j => .int (Int32.ofInt (σ a j)))) (fun q => by cases q) (by show ¬ ((Int32.ofInt (j : Int)) < 0 ∨ (arrV _ _ _).slots.size ≤ _); rw [arrV_size]; exact hin) rfl rfl hd fun H' e1 e2 e3 => ?_
  refine kk H' _ la ?_ (hS.put e2 e3 (by show b ≤ b + a; omega)) hl
  refine o_W_ui hW ha e2 e3 (fun y hy => o_up_ne hy) ?_
  rw [hs]
  show H'[b + a]? = some (vp_cell _ _)
  rw [e1, o_clamp (by omega)]
  rw [vp_cell_i, vp_cell_i, arrV_store]
  congr 2
  funext y
  by_cases hy : y = j
  · subst hy
    simp [updV, o_up]
  · simp [updV, o_up, hy]
theorem r_cast (C : oCx p s m args meth c G b own cc nL) {a len : Nat} {z v : Int} (j : Nat) (hd : decode cc pc = .ok (.castore, 1)) (hq : pc + 1 = q) (hs : T.2.1 a = (11, len)) (ha : a < T.1) (hz : z = (j : Int)) (hj : j < len) (hlen : len ≤ 1000000) (hv : 0 ≤ v ∧ v < 65536) (kk : oW p l e R s m args below meth c G b nL k n Q T (o_up σ a j v) q ls st) : oW p l e R s m args below meth c G b nL k n Q T σ pc ls (oi v :: oi z :: og a :: st) := by
  intro H locs la hW hS hl
  subst hq
  subst hz
  have hin := o_vpin hj (show len ≤ 2147483647 by omega)
  refine W.cast C.1 C.2.1 (o_arr hW ha hs (by decide) (by decide)) (o_aty (kd := 11) (ty := .char) C rfl len (fun j => .int (Int32.ofInt (σ a j)))) (fun q => by cases q) (by show ¬ ((Int32.ofInt (j : Int)) < 0 ∨ (arrV _ _ _).slots.size ≤ _); rw [arrV_size]; exact hin) rfl rfl hd fun H' e1 e2 e3 => ?_
  refine kk H' _ la ?_ (hS.put e2 e3 (by show b ≤ b + a; omega)) hl
  refine o_W_ui hW ha e2 e3 (fun y hy => o_up_ne hy) ?_
  rw [hs]
  show H'[b + a]? = some (vp_cell _ _)
  obtain ⟨w, rfl⟩ : ∃ w : Nat, v = (w : Int) := ⟨v.toNat, by omega⟩
  have e4 : narrow .char (.int (Int32.ofInt (w : Int))) = .int (Int32.ofInt (w : Int)) := by
    rw [Int32.ofInt_eq_ofNat]
    exact (pk_charN (show w < 65536 by omega)).1
  rw [e1, o_clamp (by omega)]
  rw [vp_cell_i, vp_cell_i, arrV_store]
  congr 2
  funext y
  by_cases hy : y = j
  · subst hy
    simp only [updV, o_up, if_true, and_self]
    first | exact e4 | rw [e4]
  · simp [updV, o_up, hy]
/-- System.arraycopy of ints -/
theorem r_copy (C : oCx p s m args meth c G b own cc nL) {idx a0 a len0 len : Nat} {z0 z1 z2 : Int} (sp dp cnt : Nat) (hw : Cond.methodLink own idx arraycopyName ∈ oALL ∧ Cond.native arraycopyName ∈ oALL ∧ Cond.static arraycopyName ∈ oALL ∧ Cond.initialized "java/lang/System" ∈ oALL) (hd : decode cc pc = .ok (.invokestatic idx, 3)) (hq : pc + 3 = q) (hs0 : T.2.1 a0 = (10, len0)) (ha0 : a0 < T.1) (hs : T.2.1 a = (10, len)) (ha : a < T.1) (h0 : z0 = (sp : Int)) (h1 : z1 = (dp : Int)) (h2 : z2 = (cnt : Int)) (h3 : sp + cnt ≤ len0) (h4 : dp + cnt ≤ len) (hlen0 : len0 ≤ 1000000) (hlen : len ≤ 1000000) (hfr : 1 ≤ R.frames) (hlo : st.length + (nativeFrameWords "java/lang/System" "arraycopy" 5 + 11) ≤ R.locals)
    (kk : oW p l e R s m args below meth c G b nL k n Q T (o_cp σ a0 sp a dp cnt) q ls st) : oW p l e R s m args below meth c G b nL k n Q T σ pc ls (oi z2 :: oi z1 :: og a :: oi z0 :: og a0 :: st) := by
  intro H locs la hW hS hl
  subst hq
  subst h0 h1 h2
  obtain ⟨hw1, hw2, hw3, hw4⟩ := hw
  have hts := C.2.2.2.2.1
  have hc0 := o_arr hW ha0 hs0 (by decide) (by decide)
  have hc1 := o_arr hW ha hs (by decide) (by decide)
  have e1 : (Int32.ofInt (sp : Int)).toNatClampNeg = sp := o_clamp (by omega)
  have e2 : (Int32.ofInt (dp : Int)).toNatClampNeg = dp := o_clamp (by omega)
  have e3 : (Int32.ofInt (cnt : Int)).toNatClampNeg = cnt := o_clamp (by omega)
  have t1 : (Int32.ofInt (sp : Int)).toInt = sp := o_toInt ⟨by omega, by omega⟩
  have t2 : (Int32.ofInt (dp : Int)).toInt = dp := o_toInt ⟨by omega, by omega⟩
  have t3 : (Int32.ofInt (cnt : Int)).toInt = cnt := o_toInt ⟨by omega, by omega⟩
  have n1 : ∀ w : Nat, w ≤ 1000000 → ¬ Int32.ofInt (w : Int) < 0 := fun w hw h => by
    have := (o_ltI (x := (w : Int)) (y := 0) ⟨by omega, by omega⟩ ⟨by omega, by omega⟩).mp h
    omega
  have hAr := o_aty (kd := 10) (ty := .int) C rfl
  obtain ⟨-, k0, hk0, cm0, hkk0⟩ := hAr len0 (fun j => .int (Int32.ofInt (σ a0 j)))
  obtain ⟨-, k1, hk1, cm1, hkk1⟩ := hAr len (fun j => .int (Int32.ofInt (σ a j)))
  intro T2 hT X
  have hg : (F0 m pc la ((oi (cnt : Int) :: oi (dp : Int) :: og a :: oi (sp : Int) :: og a0 :: st).map (oc b))).locals.size = c.maxLocals := by show la.size = _; rw [hl.1, C.2.2.1]
  obtain ⟨vm', X', step⟩ := X.arraycopy C.1 C.2.2.2.1 (hts _ hw1) (hts _ hw2) (hts _ hw3) (hts _ hw4) (src := b + a0) (dst := b + a) (cs := vp_cell (G.1.2 10) (len0, .inl (fun j => Int32.ofInt (σ a0 j)))) (cd := vp_cell (G.1.2 10) (len, .inl (fun j => Int32.ofInt (σ a j)))) (srcPos := Int32.ofInt (sp : Int)) (destPos := Int32.ofInt (dp : Int)) (n := Int32.ofInt (cnt : Int)) (by rw [hT]; exact hc0) (by rw [hT]; exact hc1)
    (fun _ h => by cases h) (fun _ h => by cases h) (fun h => by cases h) (fun h => by cases h) hk0 hk1 hkk0 hkk1 (by simp [refKind]) (n1 sp (by omega)) (n1 dp (by omega)) (n1 cnt (by omega))
    (by rw [t1, t3]; show ¬ _ > ((arrV _ len0 _).slots.size : Int); rw [arrV_size]; omega)
    (by rw [t2, t3]; show ¬ _ > ((arrV _ len _).slots.size : Int); rw [arrV_size]; omega)
    (fun vm₁ _ i hi => by
      have e : (vp_cell (G.1.2 10) (len0, .inl (fun j => Int32.ofInt (σ a0 j)))).slots.getD ((Int32.ofInt (sp : Int)).toNatClampNeg + i) .null = .int (Int32.ofInt (σ a0 ((Int32.ofInt (sp : Int)).toNatClampNeg + i))) := by
        show (arrV _ len0 _).slots.getD _ _ = _
        rw [Array.getD_eq_getD_getElem?, arrV_read _ _ (by rw [e3] at hi; rw [e1]; omega)]
        rfl
      refine ⟨?_, ?_⟩
      · rw [e]
        rfl
      · rw [e]
        exact trivial)
    (g := F0 m pc la ((oi (cnt : Int) :: oi (dp : Int) :: og a :: oi (sp : Int) :: og a0 :: st).map (oc b))) rfl hg (rest := st.map (oc b)) rfl (by rw [C.2.1]; exact hd) hfr (by rw [oc_sum]; show 2 * 0 + _ + _ ≤ _; omega)
  have e4 : copied (vp_cell (G.1.2 10) (len0, .inl (fun j => Int32.ofInt (σ a0 j)))) (vp_cell (G.1.2 10) (len, .inl (fun j => Int32.ofInt (σ a j)))) (Int32.ofInt (sp : Int)) (Int32.ofInt (dp : Int)) (Int32.ofInt (cnt : Int)) = vp_cell (G.1.2 10) (len, .inl (va_cpy (fun j => Int32.ofInt (σ a0 j)) (fun j => Int32.ofInt (σ a j)) (Int32.ofInt (sp : Int)).toNatClampNeg (Int32.ofInt (dp : Int)).toNatClampNeg (Int32.ofInt (cnt : Int)).toNatClampNeg)) := va_copied (n0 := len0) (n1 := len) (sp := (Int32.ofInt (sp : Int)).toNatClampNeg) (dp := (Int32.ofInt (dp : Int)).toNatClampNeg) (n := (Int32.ofInt (cnt : Int)).toNatClampNeg) (fun z => .int z) (G.1.2 10) (G.1.2 10) (fun j => Int32.ofInt (σ a0 j)) (fun j => Int32.ofInt (σ a j)) (by rw [e1, e3]; exact h3)
  rw [e4, e1, e2, e3] at X' step
  generalize hcell : vp_cell (G.1.2 10) (len, .inl (va_cpy (fun j => Int32.ofInt (σ a0 j)) (fun j => Int32.ofInt (σ a j)) sp dp cnt)) = cl at X' step
  have hla : b + a < H.size := (Array.getElem?_eq_some_iff.mp hc1).1
  have hheap : ((T2.setVm vm').setCell (b + a) cl).heap = H.setIfInBounds (b + a) cl := by rw [← hT]; rfl
  have oq : ∀ x : Nat, x ≠ b + a → (H.setIfInBounds (b + a) cl)[x]? = H[x]? := fun x hx => by simp [Array.getElem?_setIfInBounds, Ne.symm hx]
  have oz : (H.setIfInBounds (b + a) cl)[b + a]? = some cl := by simp [Array.getElem?_setIfInBounds, hla]
  have hW' : o_W G b T (o_cp σ a0 sp a dp cnt) (H.setIfInBounds (b + a) cl) := by
    refine o_W_ui hW ha (by simp) oq (fun y hy => funext fun j => by simp [o_cp, hy]) ?_
    rw [hs]
    show (H.setIfInBounds (b + a) cl)[b + a]? = some (vp_cell _ _)
    rw [oz, ← hcell]
    congr 4
    funext j
    unfold va_cpy o_cp
    by_cases hj : dp ≤ j ∧ j < dp + cnt
    · rw [if_pos hj, if_pos ⟨rfl, hj⟩]
    · rw [if_neg hj, if_neg (fun h => hj h.2)]
  have hS' : ∀ L : List Loc, (∀ x ∈ L, x.base = b + a) → va_S (fun q => b ≤ q) s.heap (H.setIfInBounds (b + a) cl) (locs ++ L) := fun L hL => ⟨by simp; exact hS.1, fun x g1 g2 => by rw [oq x (fun e => g2 (by rw [e]; show b ≤ b + a; omega))]; exact hS.2.1 x g1 g2, fun x hx => by
    rcases List.mem_append.mp hx with h | h
    · exact hS.2.2 x h
    · show b ≤ x.base
      rw [hL x h]
      omega⟩
  obtain ⟨t, a1, b1⟩ := kk _ _ la hW' (hS' _ (fun x hx => by
    obtain ⟨z, -, hz⟩ := List.mem_map.mp hx
    rw [← hz])) hl _ hheap X'
  exact ⟨t, step t a1, b1⟩
end OM
