/-! the law: what stands at its entry -/
theorem tb1 {w : Cond} (i : Nat) (h : tables_1_1[i]? = some w) : w ∈ lw_tbl := List.mem_append_right _ (by unfold tables_1; exact List.mem_append_left _ (List.mem_of_getElem? h))
theorem tb2 {w : Cond} (i : Nat) (h : tables_1_2[i]? = some w) : w ∈ lw_tbl := List.mem_append_right _ (by unfold tables_1; exact List.mem_append_right _ (List.mem_append_left _ (List.mem_of_getElem? h)))
theorem tb3 {w : Cond} (i : Nat) (h : tables_1_3[i]? = some w) : w ∈ lw_tbl := List.mem_append_right _ (by unfold tables_1; exact List.mem_append_right _ (List.mem_append_right _ (List.mem_append_left _ (List.mem_of_getElem? h))))
theorem tb4 {w : Cond} (i : Nat) (h : tables_1_4[i]? = some w) : w ∈ lw_tbl := List.mem_append_right _ (by unfold tables_1; exact List.mem_append_right _ (List.mem_append_right _ (List.mem_append_right _ (List.mem_append_left _ (List.mem_of_getElem? h)))))
theorem tb5 {w : Cond} (i : Nat) (h : tables_1_5[i]? = some w) : w ∈ lw_tbl := List.mem_append_right _ (by unfold tables_1; exact List.mem_append_right _ (List.mem_append_right _ (List.mem_append_right _ (List.mem_append_right _ (List.mem_append_left _ (List.mem_of_getElem? h))))))
theorem tb6 {w : Cond} (i : Nat) (h : tables_1_6[i]? = some w) : w ∈ lw_tbl := List.mem_append_right _ (by unfold tables_1; exact List.mem_append_right _ (List.mem_append_right _ (List.mem_append_right _ (List.mem_append_right _ (List.mem_append_right _ (List.mem_of_getElem? h))))))
theorem nw_L_7 : o_NW RL 7 8 := ⟨RX8, TX8, 11, cf_X8, o_t1 18 rfl rfl, o_t1 19 rfl rfl, o_t1 1 rfl rfl⟩
theorem nw_L_10 : o_NW RL 10 9 := ⟨RX9, TX9, 28, cf_X9, o_t5 1 rfl rfl, o_t5 2 rfl rfl, o_t1 10 rfl rfl⟩
theorem law_cl {args : Array Value} {s : State} (ho : ∀ w ∈ oALL, w.before args s = true) : ∃ fc : Nat → ClassId × (Nat → Nat), ∀ (c : Nat) (q : vw_C), o_cl[c]? = some q → u_Kn s q.1 q.2.1 q.2.2 (fc c).1 (fc c).2 := by
  have hcl : ∀ c : Nat, ∃ y : ClassId × (Nat → Nat), ∀ q : vw_C, o_cl[c]? = some q → u_Kn s q.1 q.2.1 q.2.2 y.1 y.2 := by
    intro c
    match c with
    | 0 =>
      obtain ⟨c0, is0, h⟩ := u_known (C := RX0) (T := TX0) (N := 5) (n := 5) ho uw_X0 (ho _ (o_t1 233 rfl rfl))
      exact ⟨(c0, is0), fun q hq => by cases hq; exact h⟩
    | 1 =>
      obtain ⟨c0, is0, h⟩ := u_known (C := RX1) (T := TX1) (N := 4) (n := 4) ho uw_X1 (ho _ (o_t2 21 rfl rfl))
      exact ⟨(c0, is0), fun q hq => by cases hq; exact h⟩
    | 2 =>
      obtain ⟨c0, is0, h⟩ := u_known (C := RX2) (T := TX2) (N := 6) (n := 6) ho uw_X2 (ho _ (o_t2 43 rfl rfl))
      exact ⟨(c0, is0), fun q hq => by cases hq; exact h⟩
    | 3 =>
      obtain ⟨c0, is0, h⟩ := u_known (C := RX3) (T := TX3) (N := 7) (n := 7) ho uw_X3 (ho _ (o_t1 198 rfl rfl))
      exact ⟨(c0, is0), fun q hq => by cases hq; exact h⟩
    | 4 =>
      obtain ⟨c0, is0, h⟩ := u_known (C := RX4) (T := TX4) (N := 11) (n := 11) ho uw_X4 (ho _ (o_t1 34 rfl rfl))
      exact ⟨(c0, is0), fun q hq => by cases hq; exact h⟩
    | 5 =>
      obtain ⟨c0, is0, h⟩ := u_known (C := RX5) (T := TX5) (N := 3) (n := 3) ho uw_X5 (ho _ (o_t1 178 rfl rfl))
      exact ⟨(c0, is0), fun q hq => by cases hq; exact h⟩
    | 6 =>
      obtain ⟨c0, is0, h⟩ := u_known (C := RX6) (T := TX6) (N := 8) (n := 8) ho uw_X6 (ho _ (o_t1 27 rfl rfl))
      exact ⟨(c0, is0), fun q hq => by cases hq; exact h⟩
    | 7 =>
      obtain ⟨c0, is0, h⟩ := u_known (C := RX7) (T := TX7) (N := 8) (n := 8) ho uw_X7 (ho _ (o_t1 99 rfl rfl))
      exact ⟨(c0, is0), fun q hq => by cases hq; exact h⟩
    | 8 =>
      obtain ⟨c0, is0, h⟩ := u_known (C := RX8) (T := TX8) (N := 11) (n := 11) ho uw_X8 (ho _ (o_t1 19 rfl rfl))
      exact ⟨(c0, is0), fun q hq => by cases hq; exact h⟩
    | 9 =>
      obtain ⟨c0, is0, h⟩ := u_known (C := RX9) (T := TX9) (N := 28) (n := 28) ho uw_X9 (ho _ (o_t5 2 rfl rfl))
      exact ⟨(c0, is0), fun q hq => by cases hq; exact h⟩
    | c + 10 =>
      exact ⟨(0, fun _ => 0), fun q hq => by
        have h := (List.getElem?_eq_some_iff.mp hq).1
        have h2 : c + 10 < 10 := h
        omega⟩
  obtain ⟨fc, hfc⟩ := Classical.axiomOfChoice hcl
  exact ⟨fc, fun c q hq => hfc c q hq⟩
theorem law_ar1 {args : Array Value} {s : State} {ty : FieldType} (h : (Cond.arrayClass ty).before args s = true) : ∃ cA : ClassId, ArrOfT s cA ty ∧ s.vm.findClass ("[" ++ ty.toString) = some cA := by
  obtain ⟨cA, kA, comp, h1, h2, h3⟩ := Cond.arrayClass_spec h
  exact ⟨cA, fun n z => ⟨fun k h => (by cases h), kA, h2, comp, h3⟩, h1⟩
theorem law_ar2 {args : Array Value} {s : State} {Cn : String} (h : (Cond.arrayOver (.object Cn)).before args s = true) : ∃ cA : ClassId, ArrOfT s cA (.object Cn) ∧ va_RA s cA (.object Cn) := by
  obtain ⟨comp, cA, kA, h1, -, h3, h4, h5⟩ := Cond.arrayOver_spec h
  exact ⟨cA, fun n z => ⟨fun k h => (by cases h), kA, h3, comp, h4⟩, kA, comp, h3, h4, h1, h5⟩
theorem law_ar3 {s : State} (h : o_AA s) : ∃ cA : ClassId, ArrOfT s cA (.array .int) ∧ s.vm.findClass ("[" ++ (FieldType.array .int).toString) = some cA := by
  obtain ⟨comp, cA, kA, h1, -, h3, h4, h5⟩ := o_AAs h
  exact ⟨cA, fun n z => ⟨fun k h => (by cases h), kA, h3, comp, h4⟩, h5⟩
def law_ft : Nat → FieldType := fun k => match k with
  | 0 => .int | 1 => .char | 2 => .object RX1 | 3 => .object RX4 | 4 => .object RX6 | 5 => .object RX7 | _ => .array .int
theorem law_ar {args : Array Value} {s : State} (ho : ∀ w ∈ lw_tbl, w.before args s = true) : ∃ fa : Nat → ClassId, ∀ k, k < 7 → ArrOfT s (fa (k + 10)) (law_ft k) ∧ va_RA s (fa (k + 10)) (law_ft k) := by
  obtain ⟨a0, p0, q0⟩ := law_ar1 (ho _ (tb1 96 rfl))
  obtain ⟨a1, p1, q1⟩ := law_ar1 (ho _ (tb2 72 rfl))
  obtain ⟨a2, p2, q2⟩ := law_ar2 (ho _ (tb2 20 rfl))
  obtain ⟨a3, p3, q3⟩ := law_ar2 (ho _ (tb1 33 rfl))
  obtain ⟨a4, p4, q4⟩ := law_ar2 (ho _ (tb1 184 rfl))
  obtain ⟨a5, p5, q5⟩ := law_ar2 (ho _ (tb1 98 rfl))
  obtain ⟨a6, p6, q6⟩ := law_ar3 (s := s) (ho _ (tb1 40 rfl))
  refine ⟨fun k => match k with | 10 => a0 | 11 => a1 | 12 => a2 | 13 => a3 | 14 => a4 | 15 => a5 | _ => a6, fun k hk => ?_⟩
  match k, hk with
  | 0, _ => exact ⟨p0, q0⟩
  | 1, _ => exact ⟨p1, q1⟩
  | 2, _ => exact ⟨p2, q2⟩
  | 3, _ => exact ⟨p3, q3⟩
  | 4, _ => exact ⟨p4, q4⟩
  | 5, _ => exact ⟨p5, q5⟩
  | 6, _ => exact ⟨p6, q6⟩
  | k + 7, hk => exact absurd hk (by omega)
/-- what the Statement gives of the start, piece by piece -/
def law_fl : List Cond := flatC (Jvm.Cond.and given_1 narrow_1)
abbrev law_tm : Nat → Term := fun i => Term.string RX2 (61 + 2 * i)
theorem law_s1 : ∀ i, i < 8 → Cond.exactly (law_tm i) "java/lang/String" ∈ law_fl := by decide +kernel
theorem law_s2 : ∀ i, i < 8 → Cond.eq (.field (law_tm i) "java/lang/String" "coder" "B") (.int 0) ∈ law_fl := by decide +kernel
theorem law_s3 : ∀ i, i < 8 → Cond.arrayOf (.field (law_tm i) "java/lang/String" "value" "[B") .byte ∈ law_fl := by decide +kernel
theorem law_s4 : ∀ i, i < 8 → Cond.eq (.length (.field (law_tm i) "java/lang/String" "value" "[B")) (.int (Int32.ofNat (o_slen.getD i 0))) ∈ law_fl := by decide +kernel
theorem law_s5 : ∀ i, i < 8 → ∀ j, j < o_slen.getD i 0 → Cond.eq (.elem (.field (law_tm i) "java/lang/String" "value" "[B") (.int (Int32.ofNat j))) (.int ((o_sbyt.getD i []).getD j 0)) ∈ law_fl := by decide +kernel
theorem law_s6 : ∀ i, i < 8 → ∀ j, j < 8 → i ≠ j → Cond.not (Cond.eq (law_tm i) (law_tm j)) ∈ law_fl ∨ Cond.not (Cond.eq (law_tm j) (law_tm i)) ∈ law_fl := by decide +kernel
theorem law_s7 : Cond.eq (.static "java/lang/String" "COMPACT_STRINGS" "Z") (.int 1) ∈ law_fl := by decide +kernel
theorem law_s8 : Cond.isRef (.static "jdk/internal/util/Preconditions" "SIOOBE_FORMATTER" "Ljava/util/function/BiFunction;") ∈ law_fl := by decide +kernel
theorem law_s9 : ∀ i, i < 8 → Cond.stringRef RX2 (61 + 2 * i) (o_stx.getD i "") ∈ lw_tbl := by
  intro i hi
  match i, hi with
  | 0, _ => exact tb4 117 rfl
  | 1, _ => exact tb4 118 rfl
  | 2, _ => exact tb4 119 rfl
  | 3, _ => exact tb4 120 rfl
  | 4, _ => exact tb4 121 rfl
  | 5, _ => exact tb4 122 rfl
  | 6, _ => exact tb4 123 rfl
  | 7, _ => exact tb4 124 rfl
  | i + 8, hi => exact absurd hi (by omega)
theorem law_K {args : Array Value} {s : State} (ho : ∀ w ∈ lw_tbl, w.before args s = true) (hgv : (Jvm.Cond.and given_1 narrow_1).before args s = true) : ∃ G : oG, o_K G s.heap.size s ∧ G.2.1 = fun q => s.heap[q]? := by
  have hA : ∀ a : Nat, a < s.heap.size → ¬ (fun q : Nat => s.heap.size ≤ q) a := fun a h => Nat.not_le.mpr h
  have hf := flat_of_before _ hgv
  obtain ⟨fc, hfc⟩ := law_cl (oALL_hts ho)
  obtain ⟨fa, hfa⟩ := law_ar ho
  obtain ⟨adK, adV, hS, hE⟩ := vk_Sof (args := args) (s := s) (N := 8) (tm := law_tm) (len := o_slen) (byt := o_sbyt) (A := fun q : Nat => s.heap.size ≤ q) (by decide +kernel) (fun i hi => hf _ (law_s1 i hi)) (fun i hi => hf _ (law_s2 i hi)) (fun i hi => hf _ (law_s3 i hi)) (fun i hi => hf _ (law_s4 i hi)) (fun i hi j hj => hf _ (law_s5 i hi j hj)) (fun i j hi hj hij => (law_s6 i hi j hj hij).imp (hf _) (hf _)) hA
  have hz1 := va_Zof (A := fun q : Nat => s.heap.size ≤ q) (ho _ (tb4 138 rfl)) (ho _ (tb1 14 rfl)) (va_eqi (hf _ law_s7)) hA
  have hz2 := va_Zqof (A := fun q : Nat => s.heap.size ≤ q) (ho _ (tb4 154 rfl)) (ho _ (tb1 16 rfl)) (hf _ law_s8) hA
  refine ⟨(((fun c => (fc c).1, fun c => (fc c).2), fa), (fun q => s.heap[q]?), adK, adV), ⟨⟨fun c q hq => hfc c q hq, ?_⟩, ⟨va_Nw.of rfl (ho _ (tb1 100 rfl)), va_Nw.of rfl (ho _ (tb1 234 rfl)), va_Nw.of rfl (ho _ (tb4 79 rfl))⟩, ⟨va_AO.of (ho _ (tb2 20 rfl)), va_AO.of (ho _ (tb1 33 rfl)), va_AO.of (ho _ (tb1 184 rfl)), va_AO.of (ho _ (tb1 98 rfl))⟩, ⟨fun i hi => vk_R.of (ho _ (law_s9 i hi)) (hE i hi), fun H hH => hS.kept (fun a ha _ => hH a ha)⟩, ho _ (tb1 40 rfl), fun H hH => ⟨hz1.kept (fun a ha _ => hH a ha), hz2.kept (fun a ha _ => hH a ha)⟩⟩, rfl⟩
  intro k q hq
  match k, hq with
  | 0, hq => cases hq; exact hfa 0 (by decide)
  | 1, hq => cases hq; exact hfa 1 (by decide)
  | 2, hq => cases hq; exact hfa 2 (by decide)
  | 3, hq => cases hq; exact hfa 3 (by decide)
  | 4, hq => cases hq; exact hfa 4 (by decide)
  | 5, hq => cases hq; exact hfa 5 (by decide)
  | 6, hq => cases hq; exact hfa 6 (by decide)
  | k + 7, hq =>
    have h := (List.getElem?_eq_some_iff.mp hq).1
    have h2 : k + 7 < 7 := h
    omega
theorem oRI_0 : oRI 0 (fun _ => 0) [] none := by
  refine ⟨⟨⟨⟨by decide, by decide⟩, ⟨by decide, by decide⟩, ⟨by decide, by decide⟩, ⟨by decide, by decide⟩, fun wx _ => ⟨⟨Int.le_refl _, Int.le_refl _⟩, ⟨Int.le_refl _, Int.le_refl _⟩⟩, fun ix _ => ⟨Int.le_refl _, show (0 : Int) ≤ 20 by decide⟩, fun lx hl => absurd hl (Nat.not_lt_zero _), fun ex he => absurd he (Nat.not_lt_zero _), fun _ _ => 0, fun ex he => absurd he (Nat.not_lt_zero _)⟩, fun wx _ _ => rfl⟩, fun B hB => absurd hB List.not_mem_nil, fun B hB => by cases hB⟩
/-- class and reference stand as new -/
theorem oLS_0 {T2 T3 : oT} {σ2 σ3 : oM} {xC mC : Nat} (hmC : T2.1 = mC) (hmx : xC + 1227 ≤ mC) (hC : oRC T2 σ2 xC (fun _ => 0) [] none (-7) tl_0 bx_0 0 (fun _ => 0) (-7) (-7)) (hM : oM0 (o_new T2 (9, 0)) T3 (o_new0 σ2 T2.1) σ3 mC) : oLS T3 σ3 xC mC 0 := by
  obtain ⟨m1, m2, m3, m4, m5, m6, m7⟩ := hM
  subst hmC
  have hx : oExt T2 T3 := ⟨by rw [m2]; show T2.1 ≤ T2.1 + 1 + 16; omega, fun x hx => by
    obtain ⟨g1, g2⟩ := m3 x (Nat.lt_succ_of_lt hx)
    refine ⟨g1.trans ?_, (g2 (by omega)).trans ?_⟩
    · show (if x = T2.1 then (9, 0) else T2.2.1 x) = T2.2.1 x
      rw [if_neg (by omega)]
    · show (if x = T2.1 then fun _ => none else T2.2.2 x) = T2.2.2 x
      rw [if_neg (by omega)]⟩
  have hσ : ∀ x, x < T2.1 → σ3 x = σ2 x := fun x hx => (m4 x hx).trans (by
    show (if x = T2.1 then fun _ => 0 else σ2 x) = σ2 x
    rw [if_neg (by omega)])
  have hr : ∀ c, 1 ≤ c → c ≤ 16 → c ≠ 9 → σ3 (T2.1 + c) = fun _ => 0 := fun c c1 c2 c3 => funext fun i => m6 c c1 c2 c3 i
  obtain ⟨f4, f5, f6, f7, f12, f21, f25, f26⟩ := m5
  refine ⟨fun _ => 0, [], none, -7, tl_0, bx_0, 0, fun _ => 0, -7, -7, oRC_fr hC oRI_0 hx (fun x x1 x2 => hσ x (by omega)), ?_, oRI_0⟩
  refine ⟨m1, hr 1 (by decide) (by decide) (by decide), ⟨f4, by decide, fun kx B hB => by simp at hB⟩, f6, ⟨m7 0 (by decide), m7 1 (by decide), m7 2 (by decide), m7 3 (by decide)⟩, ?_, f21, hr 14 (by decide) (by decide) (by decide), f5, f25, f26, f7⟩
  unfold bxM
  rw [hr 10 (by decide) (by decide) (by decide), hr 11 (by decide) (by decide) (by decide), hr 12 (by decide) (by decide) (by decide), hr 13 (by decide) (by decide) (by decide)]
