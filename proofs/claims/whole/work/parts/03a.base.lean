/-! MY OWN LAYER, 1: the words as one list; values; the memory by cell numbers; the judgement oW -/
def oALL : List Cond := lw_tbl.filter goodWord
theorem oALL_good : ∀ w ∈ oALL, (w.onTables && w.keeps) = true ∨ ∃ ty, w = .arrayClass ty := fun _ h => good_of_word (List.mem_filter.mp h).2
theorem o_inT {w : Cond} (h : w ∈ tables_1) (g : goodWord w = true) : w ∈ oALL := List.mem_filter.mpr ⟨List.mem_append_right _ h, g⟩
theorem o_t1 {w : Cond} (i : Nat) (h : tables_1_1[i]? = some w) (g : goodWord w = true) : w ∈ oALL := o_inT (by unfold tables_1; exact List.mem_append_left _ (List.mem_of_getElem? h)) g
theorem o_t2 {w : Cond} (i : Nat) (h : tables_1_2[i]? = some w) (g : goodWord w = true) : w ∈ oALL := o_inT (by unfold tables_1; exact List.mem_append_right _ (List.mem_append_left _ (List.mem_of_getElem? h))) g
theorem o_t3 {w : Cond} (i : Nat) (h : tables_1_3[i]? = some w) (g : goodWord w = true) : w ∈ oALL := o_inT (by unfold tables_1; exact List.mem_append_right _ (List.mem_append_right _ (List.mem_append_left _ (List.mem_of_getElem? h)))) g
theorem o_t4 {w : Cond} (i : Nat) (h : tables_1_4[i]? = some w) (g : goodWord w = true) : w ∈ oALL := o_inT (by unfold tables_1; exact List.mem_append_right _ (List.mem_append_right _ (List.mem_append_right _ (List.mem_append_left _ (List.mem_of_getElem? h))))) g
theorem o_t5 {w : Cond} (i : Nat) (h : tables_1_5[i]? = some w) (g : goodWord w = true) : w ∈ oALL := o_inT (by unfold tables_1; exact List.mem_append_right _ (List.mem_append_right _ (List.mem_append_right _ (List.mem_append_right _ (List.mem_append_left _ (List.mem_of_getElem? h)))))) g
theorem o_t6 {w : Cond} (i : Nat) (h : tables_1_6[i]? = some w) (g : goodWord w = true) : w ∈ oALL := o_inT (by unfold tables_1; exact List.mem_append_right _ (List.mem_append_right _ (List.mem_append_right _ (List.mem_append_right _ (List.mem_append_right _ (List.mem_of_getElem? h)))))) g
theorem o_sel {w : Cond} (i : Nat) (h : (k2_sels lw_privs)[i]? = some w) (g : goodWord w = true) : w ∈ oALL := List.mem_filter.mpr ⟨List.mem_append_left _ (List.mem_of_getElem? h), g⟩
theorem oALL_hts {args : Array Value} {s : State} (h : ∀ w ∈ lw_tbl, w.before args s = true) : ∀ w ∈ oALL, w.before args s = true := fun w hw => h w (List.mem_filter.mp hw).1
abbrev o_ws (y : MethodName) (cc : ByteArray) (nL : Nat) (ret : Option FieldType) : List Cond := .code y cc nL ret :: oALL
/-! values -/
abbrev oV : Type := Int ⊕ (Nat ⊕ (Nat ⊕ UInt32))
abbrev oi (z : Int) : oV := Sum.inl z
abbrev og (n : Nat) : oV := Sum.inr (Sum.inl n)
abbrev oa (a : Nat) : oV := Sum.inr (Sum.inr (Sum.inl a))
abbrev ofl (f : UInt32) : oV := Sum.inr (Sum.inr (Sum.inr f))
def oc (b : Nat) : oV → Value
  | .inl z => .int (Int32.ofInt z)
  | .inr (.inl n) => .ref (b + n)
  | .inr (.inr (.inl a)) => .ref a
  | .inr (.inr (.inr f)) => .float f
theorem oc_cat (b : Nat) (v : oV) : (oc b v).category = 1 := by rcases v with z | n | a | f <;> rfl
theorem oc_sum (b : Nat) : ∀ st : List oV, ((st.map (oc b)).map fun v => v.category).sum = st.length
  | [] => rfl
  | v :: st => by simp only [List.map_cons, List.sum_cons, List.length_cons, oc_cat, oc_sum b st]; omega
/-! locals -/
def o_lv (b : Nat) : Nat → List (Option oV) → List (Nat × Value)
  | _, [] => []
  | i, none :: t => o_lv b (i + 1) t
  | i, some v :: t => (i, oc b v) :: o_lv b (i + 1) t
theorem o_lv_mem {b : Nat} : ∀ {ls : List (Option oV)} {i k : Nat} {v : oV}, ls[k]? = some (some v) → (i + k, oc b v) ∈ o_lv b i ls
  | [], _, _, _, h => by simp at h
  | none :: t, i, 0, v, h => by simp at h
  | some w :: t, i, 0, v, h => by
    have e : w = v := by simpa using h
    subst e
    exact List.mem_cons_self
  | none :: t, i, k + 1, v, h => by
    have h2 : t[k]? = some (some v) := by simpa using h
    have := o_lv_mem (b := b) (i := i + 1) h2
    rw [show i + 1 + k = i + (k + 1) by omega] at this
    exact this
  | some w :: t, i, k + 1, v, h => by
    have h2 : t[k]? = some (some v) := by simpa using h
    have := o_lv_mem (b := b) (i := i + 1) h2
    rw [show i + 1 + k = i + (k + 1) by omega] at this
    exact List.mem_cons_of_mem _ this
theorem o_lv_of {b : Nat} : ∀ {ls : List (Option oV)} {i : Nat} {q : Nat × Value}, q ∈ o_lv b i ls → ∃ (k : Nat) (v : oV), ls[k]? = some (some v) ∧ q = (i + k, oc b v)
  | [], _, _, h => by simp [o_lv] at h
  | none :: t, i, q, h => by
    obtain ⟨k, v, h1, h2⟩ := o_lv_of (ls := t) (i := i + 1) h
    exact ⟨k + 1, v, by simpa using h1, by rw [h2]; congr 1; omega⟩
  | some w :: t, i, q, h => by
    rcases List.mem_cons.mp h with h | h
    · exact ⟨0, w, rfl, h⟩
    · obtain ⟨k, v, h1, h2⟩ := o_lv_of (ls := t) (i := i + 1) h
      exact ⟨k + 1, v, by simpa using h1, by rw [h2]; congr 1; omega⟩
theorem o_lvat {la : Array Slot} {nL b k : Nat} {ls : List (Option oV)} {v : oV} (h : lv_has la nL (o_lv b 0 ls)) (hk : ls[k]? = some (some v)) : la[k]? = some (.val (oc b v)) := by
  have h1 := h.2.2 _ (o_lv_mem (i := 0) hk)
  rw [Nat.zero_add] at h1
  exact h1
theorem o_lvset {la : Array Slot} {nL b k : Nat} {ls : List (Option oV)} {v : oV} (h : lv_has la nL ((k, oc b v) :: (o_lv b 0 ls).filter (fun q => !(q.1 == k) && !(q.1 + 1 == k && q.2.category == 2)))) : lv_has la nL (o_lv b 0 (ls.set k (some v))) := by
  refine ⟨h.1, h.2.1, fun q hq => h.2.2 q ?_⟩
  obtain ⟨j, w, h1, rfl⟩ := o_lv_of hq
  rw [Nat.zero_add]
  by_cases hj : k = j
  · subst hj
    rw [List.getElem?_set] at h1
    simp only [if_true] at h1
    split at h1
    · have e : v = w := by simpa using h1
      subst e
      exact List.mem_cons_self
    · cases h1
  · rw [List.getElem?_set_ne hj] at h1
    refine List.mem_cons_of_mem _ (List.mem_filter.mpr ⟨?_, ?_⟩)
    · have := o_lv_mem (b := b) (i := 0) h1
      rw [Nat.zero_add] at this
      exact this
    · simp [oc_cat, Ne.symm hj]
/-! memory -/
abbrev oT : Type := Nat × (Nat → Nat × Nat) × (Nat → Nat → Option Nat)
abbrev oM : Type := Nat → Nat → Int
/-- the machine's side: class ids and slots, array class ids, the low heap, the strings' addresses and their arrays' -/
abbrev oG : Type := (va_G × (Nat → ClassId)) × (Nat → Option Cell) × (Nat → Nat) × (Nat → Nat)
abbrev o_cl : List vw_C := [(RX0, TX0, 5), (RX1, TX1, 4), (RX2, TX2, 6), (RX3, TX3, 7), (RX4, TX4, 11), (RX5, TX5, 3), (RX6, TX6, 8), (RX7, TX7, 8), (RX8, TX8, 11), (RX9, TX9, 28)]
def o_tyf : Nat → Nat → FieldType := fun ci => match ci with
  | 0 => tyX0 | 1 => tyX1 | 2 => tyX2 | 3 => tyX3 | 4 => tyX4 | 5 => tyX5 | 6 => tyX6 | 7 => tyX7 | 8 => tyX8 | _ => tyX9
def o_nf : Nat → Nat := fun ci => match ci with
  | 0 => 5 | 1 => 4 | 2 => 6 | 3 => 7 | 4 => 11 | 5 => 3 | 6 => 8 | 7 => 8 | 8 => 11 | _ => 28
def o_fv (b ci k : Nat) (r : Nat → Option Nat) (v : Nat → Int) : Value := if (o_tyf ci k).isReference = true then va_rf ((r k).map (b + ·)) else .int (Int32.ofInt (v k))
def o_fs (b ci : Nat) (r : Nat → Option Nat) (v : Nat → Int) : List Value := (List.range (o_nf ci)).map (fun k => o_fv b ci k r v)
theorem o_fs_len (b ci : Nat) (r : Nat → Option Nat) (v : Nat → Int) : (o_fs b ci r v).length = o_nf ci := by simp [o_fs]
theorem o_fs_get {b ci k : Nat} {r : Nat → Option Nat} {v : Nat → Int} (h : k < o_nf ci) : (o_fs b ci r v)[k]? = some (o_fv b ci k r v) := by simp [o_fs, h]
theorem o_fs_V {b ci k : Nat} {r : Nat → Option Nat} {v : Nat → Int} (h : k < o_nf ci) : vp_V (o_fs b ci r v) k = o_fv b ci k r v := by
  unfold vp_V
  rw [List.getD_eq_getElem?_getD, o_fs_get h]
  rfl
def o_e (G : oG) (b : Nat) (kd : Nat × Nat) (r : Nat → Option Nat) (v : Nat → Int) : va_E :=
  if kd.1 < 10 then .inr (kd.1, o_fs b kd.1 r v)
  else if kd.1 < 12 then .inl (G.1.2 kd.1, (kd.2, .inl (fun j => Int32.ofInt (v j))))
  else .inl (G.1.2 kd.1, (kd.2, .inr (.inr (.inr (.inr (fun j => (r j).map (b + ·)))))))
def o_W (G : oG) (b : Nat) (T : oT) (σ : oM) (H : Heap) : Prop :=
  H.size = b + T.1 ∧ (∀ n, n < T.1 → va_at G.1.1 o_cl (b + n, o_e G b (T.2.1 n) (T.2.2 n) (σ n)) H) ∧ ∀ q, q < b → H[q]? = G.2.1 q
def o_tys (G : oG) : List (ClassId × FieldType) := [(G.1.2 10, .int), (G.1.2 11, .char), (G.1.2 12, .object RX1), (G.1.2 13, .object RX4), (G.1.2 14, .object RX6), (G.1.2 15, .object RX7), (G.1.2 16, .array .int)]
def o_slen : List Nat := [5, 7, 5, 5, 7, 9, 5, 0]
def o_sbyt : List (List Int32) := [[100, 58, 110, 45, 110], [100, 58, 110, 43, 110, 42, 100], [100, 58, 110, 61, 100], [100, 58, 110, 61, 110], [100, 46, 100, 58, 110, 61, 100], [100, 58, 100, 46, 100, 42, 110, 47, 110], [110, 58, 110, 43, 110], []]
def o_stx : List String := ["d:n-n", "d:n+n*d", "d:n=d", "d:n=n", "d.d:n=d", "d:d.d*n/n", "n:n+n", ""]
def o_Kn (U : State) : Prop := va_Nw (.methodLinkNest RX6 34 yX7_init RX8) U ∧ va_Nw (.methodLinkNest RX8 35 yX0_init RX8) U ∧ va_Nw (.methodLinkNest RX1 31 yX8_isString RX8) U
def o_Ka (U : State) : Prop := va_AO RX1 U ∧ va_AO RX4 U ∧ va_AO RX6 U ∧ va_AO RX7 U
def o_Ks (G : oG) (b : Nat) (U : State) : Prop := (∀ i, i < 8 → vk_R RX2 (61 + 2 * i) (o_stx.getD i "") (G.2.2.1 i) U) ∧ (∀ H : Heap, (∀ q, q < b → H[q]? = G.2.1 q) → vk_S 8 o_slen o_sbyt G.2.2.1 G.2.2.2 (fun q => b ≤ q) U H)
def o_AA (U : State) : Prop := (Cond.arrayOver (.array .int)).before #[] U = true
def o_isA (comp : ClassId) (x : Class) : Bool := match x.kind with | .array component _ => component == comp | _ => false
theorem o_isA_b (vm : Vm) (comp : ClassId) : vm.bare.classes.findIdx? (o_isA comp) = vm.classes.findIdx? (o_isA comp) := by
  simp only [Vm.bare, Array.findIdx?_map]
  rfl
theorem o_AAs {u : State} (h : o_AA u) : ∃ comp c k, u.vm.findClass (FieldType.array .int).toString = some comp ∧ u.vm.classes.findIdx? (o_isA comp) = some c ∧ u.vm.classes[c]? = some k ∧ k.kind = .array comp (.array .int) ∧ u.vm.findClass ("[" ++ (FieldType.array .int).toString) = some c := by
  unfold o_AA Cond.before at h
  simp only [Cond.holds, Cond.value, beq_iff_eq] at h
  cases hc : u.vm.findClass (FieldType.array .int).toString with
  | none => simp [hc] at h
  | some comp =>
    simp only [hc, Option.bind_some, Option.bind_eq_some_iff, Option.map_eq_some_iff] at h
    obtain ⟨c, hi, k, hk, hb⟩ := h
    obtain ⟨hlt, hp, -⟩ := Array.findIdx?_eq_some_iff_getElem.mp hi
    have hkk : u.vm.classes[c] = k := (Array.getElem?_eq_some_iff.mp hk).2
    rw [hkk] at hp
    cases hkind : k.kind with
    | array component ty =>
      rw [hkind] at hb hp
      simp at hb hp
      exact ⟨comp, c, k, rfl, hi, hk, by rw [hkind, hp, hb.1], hb.2⟩
    | _ => rw [hkind] at hb; simp at hb
theorem o_AA.moved {u U : State} (hvm : u.vm.Alike U.vm) (h : o_AA u) : o_AA U := by
  obtain ⟨comp, c, k, h1, h2, h3, h4, h5⟩ := o_AAs h
  obtain ⟨k', hk', he⟩ := hvm.2.2 _ _ h3
  have hi : U.vm.classes.findIdx? (o_isA comp) = some c := by
    rw [← o_isA_b]
    first | rw [hvm.bare_eq] | rw [← hvm.bare_eq]
    rw [o_isA_b]
    exact h2
  have hkind : k'.kind = .array comp (.array .int) := by rw [he]; exact h4
  have f1 : U.vm.findClass (FieldType.array .int).toString = some comp := by rw [hvm.findClass]; exact h1
  have f2 : U.vm.findClass ("[" ++ (FieldType.array .int).toString) = some c := by rw [hvm.findClass]; exact h5
  unfold o_AA Cond.before Cond.holds
  simp only [Cond.value]
  rw [f1, Option.bind_some]
  refine (congrArg (fun o : Option Nat => (o.bind (fun c => (U.vm.classes[c]?).map fun (k : Class) => match k.kind with | .array _ ty => decide (ty = FieldType.array .int) && decide (U.vm.findClass ("[" ++ (FieldType.array .int).toString) = some c) | _ => false) == some true)) hi).trans ?_
  simp [hk', hkind, f2]
def o_Kz (G : oG) (b : Nat) (U : State) : Prop := ∀ H : Heap, (∀ q, q < b → H[q]? = G.2.1 q) → va_Z "java/lang/String" "COMPACT_STRINGS" "Z" (.int 1) (fun q => b ≤ q) U H ∧ va_Zq "jdk/internal/util/Preconditions" "SIOOBE_FORMATTER" "Ljava/util/function/BiFunction;" (fun q => b ≤ q) U H
theorem o_Kz.moved {G : oG} {b : Nat} {u U : State} (hvm : u.vm.Alike U.vm) (h : o_Kz G b u) : o_Kz G b U := fun H hH => ⟨va_Z.moved hvm (h H hH).1, va_Zq.moved hvm (h H hH).2⟩
def o_K (G : oG) (b : Nat) (U : State) : Prop := va_K G.1.1 o_cl (o_tys G) U ∧ o_Kn U ∧ o_Ka U ∧ o_Ks G b U ∧ o_AA U ∧ o_Kz G b U
theorem o_K.warm {G : oG} {b : Nat} {s U : State} (hW : s.WarmedH U.vm) (h : o_K G b s) : o_K G b U :=
  ⟨va_K.moved hW.alike h.1, ⟨va_Nw.warmM hW h.2.1.1, va_Nw.warmM hW h.2.1.2.1, va_Nw.warmM hW h.2.1.2.2⟩, ⟨va_AO.moved hW.alike h.2.2.1.1, va_AO.moved hW.alike h.2.2.1.2.1, va_AO.moved hW.alike h.2.2.1.2.2.1, va_AO.moved hW.alike h.2.2.1.2.2.2⟩, ⟨fun i hi => vk_R.warm hW (h.2.2.2.1.1 i hi), fun H hH => vk_S.moved hW.alike (h.2.2.2.1.2 H hH)⟩, o_AA.moved hW.alike h.2.2.2.2.1, o_Kz.moved hW.alike h.2.2.2.2.2⟩
theorem o_K.same {G : oG} {b : Nat} {s U : State} (hv : U.vm = s.vm) (h : o_K G b s) : o_K G b U := by
  have ha : s.vm.Alike U.vm := by rw [hv]; exact Vm.Alike.refl _
  exact ⟨va_K.moved ha h.1, ⟨va_Nw.same rfl hv.symm h.2.1.1, va_Nw.same rfl hv.symm h.2.1.2.1, va_Nw.same rfl hv.symm h.2.1.2.2⟩, ⟨va_AO.moved ha h.2.2.1.1, va_AO.moved ha h.2.2.1.2.1, va_AO.moved ha h.2.2.1.2.2.1, va_AO.moved ha h.2.2.1.2.2.2⟩, ⟨fun i hi => vk_R.same hv (h.2.2.2.1.1 i hi), fun H hH => vk_S.moved ha (h.2.2.2.1.2 H hH)⟩, o_AA.moved ha h.2.2.2.2.1, o_Kz.moved ha h.2.2.2.2.2⟩
section OW
variable {p : Program} {l : Launch} {e : Env} {R : Room} {s : State} {m : MethodId} {args : Array Value} {below : List Frame} {meth : Method} {c : Code} {G : oG} {b : Nat}
/-- the context of a method: the machine, its code, the words, what the tables say -/
def oCx (p : Program) (s : State) (m : MethodId) (args : Array Value) (meth : Method) (c : Code) (G : oG) (b : Nat) (own : String) (cc : ByteArray) (nL : Nat) : Prop :=
  p.tables.exec = Jvm.exec ∧ c.code = cc ∧ c.maxLocals = nL ∧ s.vm.findClass own = some m.cls ∧ (∀ w ∈ oALL, w.before args s = true) ∧ o_K G b s ∧ b ≤ s.heap.size ∧ meth.locks = false
def oW (p : Program) (l : Launch) (e : Env) (R : Room) (s : State) (m : MethodId) (args : Array Value) (below : List Frame) (meth : Method) (c : Code) (G : oG) (b nL k n : Nat) (Q : State → Prop) (T : oT) (σ : oM) (pc : Nat) (ls : List (Option oV)) (st : List oV) : Prop :=
  ∀ (H : Heap) (locs : List Loc) (la : Array Slot), o_W G b T σ H → va_S (fun q => b ≤ q) s.heap H locs → lv_has la nL (o_lv b 0 ls) → W p l e R s m args below meth c H locs k n Q (F0 m pc la (st.map (oc b)))
def o_Qc (G : oG) (b : Nat) (Po : Option oV → oT → oM → Prop) : Array Value → State → Outcome → State → Prop := fun _ st oc' t =>
  (∃ (r : Option oV) (T : oT) (σ : oM), oc' = .returned (r.map (oc b)) ∧ Po r T σ ∧ o_W G b T σ t.heap) ∧ va_F (fun q => b ≤ q) st t
/-- a method's contract: from the memory T, σ, with these arguments: it returns, with Po of its answer and the memory then; mc cells of ms slots are new -/
def MS (y : MethodName) (cc : ByteArray) (nL : Nat) (ret : Option FieldType) (fr mc ms lc : Nat) (As : List oV) (T : oT) (σ : oM) (Po : Option oV → oT → oM → Prop) : Prop :=
  ∀ (l : Launch) (G : oG) (b : Nat), Met l y (o_ws y cc nL ret) ({ frames := fr, cells := mc, slots := ms, locals := lc }) (va_Pc (As.map (oc b)) (fun U => o_K G b U ∧ o_W G b T σ U.heap)) (o_Qc G b Po) mc ms (fun q => b ≤ q)
theorem o_W.le {T : oT} {σ : oM} {H : Heap} (h : o_W G b T σ H) : b ≤ H.size := by have := h.1; omega
theorem o_S {T : oT} {σ : oM} {H : Heap} {locs : List Loc} (h : va_S (fun q => b ≤ q) s.heap H locs) : va_F (fun q => b ≤ q) s { s with heap := H } := ⟨h.1, h.2.1⟩
/-- the start's locals -/
def o_args (As : List oV) (nL : Nat) : List (Option oV) := As.map some ++ List.replicate (nL - As.length) none
theorem o_sl (b : Nat) : ∀ As : List oV, lg_sl (As.map (oc b)) = (As.map (oc b)).map Slot.val
  | [] => rfl
  | v :: t => by
    rw [List.map_cons, List.map_cons]
    have h := o_sl b t
    have hc := oc_cat b v
    simp only [lg_sl] at *
    simp [h, hc]
end OW
