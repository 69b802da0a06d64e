/-! comparisons: runs found block by block are the runs traced bar by bar -/
/-- common bars stand in one order -/
def ordP (o1 o2 : Nat → Int) (B1 B2 : Nat) : Prop := ∃ pp : Int → Int, (∀ j k, 1 ≤ j → j < k → k ≤ B1 → pp (o1 j) < pp (o1 k)) ∧ ∀ j k, 1 ≤ j → j < k → k ≤ B2 → pp (o2 j) < pp (o2 k)
theorem ordP_of {Bd : Int} {A : Nat → Int} {eN kN : Nat} (h : oI Bd A) (he : eN < nEd A) (hk : kN < nEd A) (hw : A (177 + 813 * eN) = A (177 + 813 * kN)) : ordP (fun j => A (190 + 813 * eN + 8 * j)) (fun j => A (190 + 813 * kN + 8 * j)) (nBr A eN) (nBr A kN) := by
  obtain ⟨pos, hpos⟩ := h.2.2.2.2.2.2.2.2
  refine ⟨pos (A (177 + 813 * eN)), fun j k j1 jk k2 => (hpos eN he j j1 (by omega)).2 k jk k2, fun j k j1 jk k2 => ?_⟩
  rw [hw]
  exact (hpos kN hk j j1 (by omega)).2 k jk k2
/-- the place of the first's bar n in the second; 0 if none -/
def ccP (o1 o2 : Nat → Int) (B2 n : Nat) : Nat := fstAt o2 (o1 n) B2 1
theorem ccP_s {o1 o2 : Nat → Int} {B2 n : Nat} : (ccP o1 o2 B2 n = 0 ∧ ∀ j, 1 ≤ j → j ≤ B2 → o2 j ≠ o1 n) ∨ (1 ≤ ccP o1 o2 B2 n ∧ ccP o1 o2 B2 n ≤ B2 ∧ o2 (ccP o1 o2 B2 n) = o1 n) := by
  unfold ccP
  rcases fstAt_spec (f := o2) (v := o1 n) (n := B2) (j := 1) (by omega) with ⟨h1, h2⟩ | ⟨h1, h2, h3, -⟩
  · exact Or.inl ⟨h1, fun j j1 j2 => h2 j j1 (by omega)⟩
  · exact Or.inr ⟨h1, by omega, h3⟩
section CMP
variable {o1 v1 o2 v2 : Nat → Int} {B1 B2 : Nat}
theorem ord_2 (h : ordP o1 o2 B1 B2) {j k : Nat} (j1 : 1 ≤ j) (j2 : j ≤ B2) (k1 : 1 ≤ k) (k2 : k ≤ B2) (e : o2 j = o2 k) : j = k := by
  obtain ⟨pp, -, h2⟩ := h
  rcases Nat.lt_trichotomy j k with c | c | c
  · have := h2 j k j1 c k2
    rw [e] at this
    omega
  · exact c
  · have := h2 k j k1 c j2
    rw [e] at this
    omega
theorem ord_1 (h : ordP o1 o2 B1 B2) {j k : Nat} (j1 : 1 ≤ j) (j2 : j ≤ B1) (k1 : 1 ≤ k) (k2 : k ≤ B1) (e : o1 j = o1 k) : j = k := by
  obtain ⟨pp, h1, -⟩ := h
  rcases Nat.lt_trichotomy j k with c | c | c
  · have := h1 j k j1 c k2
    rw [e] at this
    omega
  · exact c
  · have := h1 k j k1 c j2
    rw [e] at this
    omega
/-- common bars keep their order -/
theorem ord_m (h : ordP o1 o2 B1 B2) {m n j k : Nat} (m1 : 1 ≤ m) (mn : m < n) (n2 : n ≤ B1) (j1 : 1 ≤ j) (j2 : j ≤ B2) (k1 : 1 ≤ k) (k2 : k ≤ B2) (e1 : o1 m = o2 j) (e2 : o1 n = o2 k) : j < k := by
  obtain ⟨pp, h1, h2⟩ := h
  have q := h1 m n m1 mn n2
  rw [e1, e2] at q
  rcases Nat.lt_trichotomy j k with c | c | c
  · exact c
  · subst c
    omega
  · have := h2 k j k1 c j2
    omega
theorem cc_eq (h : ordP o1 o2 B1 B2) {n k : Nat} (k1 : 1 ≤ k) (k2 : k ≤ B2) (e : o2 k = o1 n) : ccP o1 o2 B2 n = k := by
  rcases ccP_s (o1 := o1) (o2 := o2) (B2 := B2) (n := n) with ⟨-, h2⟩ | ⟨h1, h2, h3⟩
  · exact absurd e (h2 k k1 k2)
  · exact ord_2 h h1 h2 k1 k2 (by rw [h3, e])
abbrev trP (o1 v1 o2 v2 : Nat → Int) (B2 n : Nat) : Nat := (trS o1 v1 o2 v2 B2 n).1
/-- what is passed: the last common bar's place; the search behind it finds what the search over all finds -/
theorem tr_pass (h : ordP o1 o2 B1 B2) : ∀ n, n ≤ B1 → (trP o1 v1 o2 v2 B2 n ≤ B2 ∧ (trP o1 v1 o2 v2 B2 n = 0 ∨ ∃ m, 1 ≤ m ∧ m ≤ n ∧ o1 m = o2 (trP o1 v1 o2 v2 B2 n)) ∧ (∀ m j, 1 ≤ m → m ≤ n → 1 ≤ j → j ≤ B2 → o1 m = o2 j → j ≤ trP o1 v1 o2 v2 B2 n)) ∧ (n + 1 ≤ B1 → fstAt o2 (o1 (n + 1)) (B2 - trP o1 v1 o2 v2 B2 n) (trP o1 v1 o2 v2 B2 n + 1) = ccP o1 o2 B2 (n + 1)) := by
  have key : ∀ n P, P ≤ B2 → (P = 0 ∨ ∃ m, 1 ≤ m ∧ m ≤ n ∧ o1 m = o2 P) → n + 1 ≤ B1 → fstAt o2 (o1 (n + 1)) (B2 - P) (P + 1) = ccP o1 o2 B2 (n + 1) := fun n P p1 p2 p3 => by
    rcases fstAt_spec (f := o2) (v := o1 (n + 1)) (n := B2 - P) (j := P + 1) (by omega) with ⟨s1, s2⟩ | ⟨s1, s2, s3, -⟩
    · rw [s1]
      rcases ccP_s (o1 := o1) (o2 := o2) (B2 := B2) (n := n + 1) with ⟨c1, -⟩ | ⟨c1, c2, c3⟩
      · exact c1.symm
      · exfalso
        by_cases hP : P + 1 ≤ ccP o1 o2 B2 (n + 1)
        · exact s2 _ hP (by omega) c3
        · rcases p2 with p2 | ⟨m, m1, m2, m3⟩
          · omega
          · have := ord_m h m1 (show m < n + 1 by omega) p3 (show 1 ≤ P by omega) p1 c1 c2 m3 c3.symm
            omega
    · exact (cc_eq h (by omega) (by omega) s3).symm
  intro n
  induction n with
  | zero =>
    intro _
    have h0 : trP o1 v1 o2 v2 B2 0 = 0 := rfl
    rw [h0]
    exact ⟨⟨by omega, Or.inl rfl, fun m j m1 m2 => by omega⟩, fun hB => key 0 0 (by omega) (Or.inl rfl) hB⟩
  | succ n ih =>
    intro hn
    obtain ⟨⟨i1, i2, i3⟩, i4⟩ := ih (by omega)
    have i5 := i4 hn
    have hP : trP o1 v1 o2 v2 B2 (n + 1) = if ccP o1 o2 B2 (n + 1) = 0 then trP o1 v1 o2 v2 B2 n else ccP o1 o2 B2 (n + 1) := by
      rw [← i5]
      unfold trP
      rw [trS]
      split <;> rfl
    have hmain : trP o1 v1 o2 v2 B2 (n + 1) ≤ B2 ∧ (trP o1 v1 o2 v2 B2 (n + 1) = 0 ∨ ∃ m, 1 ≤ m ∧ m ≤ n + 1 ∧ o1 m = o2 (trP o1 v1 o2 v2 B2 (n + 1))) ∧ (∀ m j, 1 ≤ m → m ≤ n + 1 → 1 ≤ j → j ≤ B2 → o1 m = o2 j → j ≤ trP o1 v1 o2 v2 B2 (n + 1)) := by
      rw [hP]
      rcases ccP_s (o1 := o1) (o2 := o2) (B2 := B2) (n := n + 1) with ⟨c1, c2⟩ | ⟨c1, c2, c3⟩
      · rw [if_pos c1]
        refine ⟨i1, ?_, fun m j m1 m2 j1 j2 e => ?_⟩
        · rcases i2 with i2 | ⟨m, m1, m2, m3⟩
          · exact Or.inl i2
          · exact Or.inr ⟨m, m1, by omega, m3⟩
        · by_cases hm : m = n + 1
          · rw [hm] at e
            exact absurd e.symm (c2 j j1 j2)
          · exact i3 m j m1 (by omega) j1 j2 e
      · rw [if_neg (by omega)]
        refine ⟨c2, Or.inr ⟨n + 1, by omega, Nat.le_refl _, c3.symm⟩, fun m j m1 m2 j1 j2 e => ?_⟩
        by_cases hm : m = n + 1
        · rw [hm] at e
          rw [cc_eq h j1 j2 e.symm]
          exact Nat.le_refl _
        · exact Nat.le_of_lt (ord_m h m1 (show m < n + 1 by omega) hn j1 j2 c1 c2 e c3.symm)
    exact ⟨hmain, fun hB => key (n + 1) _ hmain.1 hmain.2.1 hB⟩
/-- one bar traced -/
theorem tr_s0 (h : ordP o1 o2 B1 B2) {n : Nat} (hn : n + 1 ≤ B1) (hc : ccP o1 o2 B2 (n + 1) = 0) : trS o1 v1 o2 v2 B2 (n + 1) = ((trS o1 v1 o2 v2 B2 n).1, (trS o1 v1 o2 v2 B2 n).2.1, (trS o1 v1 o2 v2 B2 n).2.2.1, extL (trS o1 v1 o2 v2 B2 n).2.2.2 1 ((n + 1 : Nat) : Int) ((trS o1 v1 o2 v2 B2 n).1 : Int)) := by
  have h1 := ((tr_pass (v1 := v1) (v2 := v2) h n (by omega)).2 hn).trans hc
  rw [trS, if_pos h1]
theorem tr_s1 (h : ordP o1 o2 B1 B2) {n : Nat} (hn : n + 1 ≤ B1) (hc : ccP o1 o2 B2 (n + 1) ≠ 0) (hv : v1 (n + 1) = v2 (ccP o1 o2 B2 (n + 1))) : trS o1 v1 o2 v2 B2 (n + 1) = (ccP o1 o2 B2 (n + 1), (trS o1 v1 o2 v2 B2 n).2.1 + 1, (trS o1 v1 o2 v2 B2 n).2.2.1 + 1, gapL (trS o1 v1 o2 v2 B2 n).2.2.2 (n : Int) (((trS o1 v1 o2 v2 B2 n).1 : Int) + 1) ((ccP o1 o2 B2 (n + 1) : Int) - 1)) := by
  have h1 := (tr_pass (v1 := v1) (v2 := v2) h n (by omega)).2 hn
  unfold trP at h1
  rw [trS, h1, if_neg hc, if_pos hv, if_pos hv]
theorem tr_s2 (h : ordP o1 o2 B1 B2) {n : Nat} (hn : n + 1 ≤ B1) (hc : ccP o1 o2 B2 (n + 1) ≠ 0) (hv : ¬ v1 (n + 1) = v2 (ccP o1 o2 B2 (n + 1))) : trS o1 v1 o2 v2 B2 (n + 1) = (ccP o1 o2 B2 (n + 1), (trS o1 v1 o2 v2 B2 n).2.1 + 1, (trS o1 v1 o2 v2 B2 n).2.2.1, extL (gapL (trS o1 v1 o2 v2 B2 n).2.2.2 (n : Int) (((trS o1 v1 o2 v2 B2 n).1 : Int) + 1) ((ccP o1 o2 B2 (n + 1) : Int) - 1)) 3 ((n + 1 : Nat) : Int) ((ccP o1 o2 B2 (n + 1) : Nat) : Int)) := by
  have h1 := (tr_pass (v1 := v1) (v2 := v2) h n (by omega)).2 hn
  unfold trP at h1
  rw [trS, h1, if_neg hc, if_neg hv, if_neg hv]
/-- the last run is not one of this kind that ends ahead of bar n -/
def notAt (Lr : List oRun) (kd : Int) (n : Nat) : Prop := ∀ r, Lr.getLast? = some r → ¬ (r.1 = kd ∧ r.2.1 + r.2.2.2 = (n : Int))
theorem ext_new {Lr : List oRun} {kd tx : Int} {n : Nat} (h : notAt Lr kd n) : extL Lr kd (n : Int) tx = Lr ++ [(kd, (n : Int), tx, 1)] := by
  unfold extL
  split
  · next r hr => rw [if_neg (h r hr)]
  · rfl
theorem ext_on {Lr : List oRun} {kd bx tx lx ty : Int} {n : Nat} (h : bx + lx = (n : Int)) : extL (Lr ++ [(kd, bx, tx, lx)]) kd (n : Int) ty = Lr ++ [(kd, bx, tx, lx + 1)] := by
  unfold extL
  rw [List.getLast?_concat]
  show (if (kd, bx, tx, lx).1 = kd ∧ (kd, bx, tx, lx).2.1 + (kd, bx, tx, lx).2.2.2 = (n : Int) then _ else _) = _
  rw [if_pos ⟨rfl, h⟩, List.dropLast_concat]
theorem notAt_c {Lr : List oRun} {r : oRun} {kd : Int} {n : Nat} (h : ¬ (r.1 = kd ∧ r.2.1 + r.2.2.2 = (n : Int))) : notAt (Lr ++ [r]) kd n := fun q hq => by
  rw [List.getLast?_concat] at hq
  cases hq
  exact h
theorem notAt_n {kd : Int} {n : Nat} : notAt [] kd n := fun q hq => by cases hq
/-- bars of the first alone, from in on to i1 - 1 -/
theorem ph_1 (h : ordP o1 o2 B1 B2) {i0 : Nat} (h0 : 1 ≤ i0) (hK : notAt (trS o1 v1 o2 v2 B2 (i0 - 1)).2.2.2 1 i0) : ∀ d, i0 + d ≤ B1 + 1 → (∀ x, i0 ≤ x → x < i0 + d → ccP o1 o2 B2 x = 0) → trS o1 v1 o2 v2 B2 (i0 + d - 1) = ((trS o1 v1 o2 v2 B2 (i0 - 1)).1, (trS o1 v1 o2 v2 B2 (i0 - 1)).2.1, (trS o1 v1 o2 v2 B2 (i0 - 1)).2.2.1, if d = 0 then (trS o1 v1 o2 v2 B2 (i0 - 1)).2.2.2 else (trS o1 v1 o2 v2 B2 (i0 - 1)).2.2.2 ++ [(1, (i0 : Int), ((trS o1 v1 o2 v2 B2 (i0 - 1)).1 : Int), (d : Int))])
  | 0, _, _ => by
    rw [if_pos rfl]
    rfl
  | d + 1, hd, hx => by
    have ih := ph_1 h h0 hK d (by omega) (fun x x1 x2 => hx x x1 (by omega))
    have hs := tr_s0 (v1 := v1) (v2 := v2) h (n := i0 + d - 1) (by omega) (hx _ (by omega) (by omega))
    rw [show i0 + (d + 1) - 1 = i0 + d - 1 + 1 by omega, hs, ih]
    rw [if_neg (show ¬ d + 1 = 0 by omega)]
    by_cases hd0 : d = 0
    · subst hd0
      rw [if_pos rfl]
      show (_, _, _, extL _ _ ((i0 + 0 - 1 + 1 : Nat) : Int) _) = _
      rw [show i0 + 0 - 1 + 1 = i0 by omega, ext_new hK]
      rfl
    · rw [if_neg hd0]
      show (_, _, _, extL (_ ++ [(1, (i0 : Int), _, (d : Int))]) 1 ((i0 + d - 1 + 1 : Nat) : Int) _) = _
      rw [ext_on (by omega)]
      rfl
/-- facing bars of other versions, from i1 and j1 on -/
theorem ph_3 (h : ordP o1 o2 B1 B2) {i1 j1 : Nat} {L2 : List oRun} (h1 : 1 ≤ i1) (hj : 1 ≤ j1) (hL : gapL (trS o1 v1 o2 v2 B2 (i1 - 1)).2.2.2 ((i1 : Int) - 1) (((trS o1 v1 o2 v2 B2 (i1 - 1)).1 : Int) + 1) ((j1 : Int) - 1) = L2) (hK : notAt L2 3 i1) : ∀ d, i1 + d ≤ B1 + 1 → (∀ x, x < d → ccP o1 o2 B2 (i1 + x) = j1 + x ∧ v1 (i1 + x) ≠ v2 (j1 + x)) → 0 < d → (trS o1 v1 o2 v2 B2 (i1 + d - 1)).1 = j1 + d - 1 ∧ (trS o1 v1 o2 v2 B2 (i1 + d - 1)).2.2.2 = L2 ++ [(3, (i1 : Int), (j1 : Int), (d : Int))]
  | 0, _, _, hd => absurd hd (by omega)
  | d + 1, hd, hx, _ => by
    have hf := hx d (by omega)
    have hs := tr_s2 (v1 := v1) (v2 := v2) h (n := i1 + d - 1) (by omega) (by rw [show i1 + d - 1 + 1 = i1 + d by omega, hf.1]; omega) (by rw [show i1 + d - 1 + 1 = i1 + d by omega, hf.1]; exact hf.2)
    rw [show i1 + d - 1 + 1 = i1 + d by omega] at hs
    rw [show i1 + (d + 1) - 1 = i1 + d by omega, hs, hf.1]
    refine ⟨by show j1 + d = _; omega, ?_⟩
    show extL (gapL _ _ _ _) 3 ((i1 + d : Nat) : Int) ((j1 + d : Nat) : Int) = _
    by_cases hd0 : d = 0
    · subst hd0
      rw [show i1 + 0 - 1 = i1 - 1 by omega, show ((i1 - 1 : Nat) : Int) = (i1 : Int) - 1 by omega, Nat.add_zero, Nat.add_zero, hL, ext_new hK]
      rfl
    · obtain ⟨q1, q2⟩ := ph_3 h h1 hj hL hK d (by omega) (fun x hx2 => hx x (by omega)) (by omega)
      rw [q1, q2]
      unfold gapL
      rw [if_neg (by omega), ext_on (by omega)]
      rfl
/-- facing bars of the same version, from i3 and j3 on, the gap ahead being told -/
theorem ph_4 (h : ordP o1 o2 B1 B2) {i3 j3 : Nat} {L3 : List oRun} (h1 : 1 ≤ i3) (hj : 1 ≤ j3) (hL : gapL (trS o1 v1 o2 v2 B2 (i3 - 1)).2.2.2 ((i3 : Int) - 1) (((trS o1 v1 o2 v2 B2 (i3 - 1)).1 : Int) + 1) ((j3 : Int) - 1) = L3) : ∀ d, i3 + d ≤ B1 + 1 → (∀ x, x < d → ccP o1 o2 B2 (i3 + x) = j3 + x ∧ v1 (i3 + x) = v2 (j3 + x)) → 0 < d → (trS o1 v1 o2 v2 B2 (i3 + d - 1)).1 = j3 + d - 1 ∧ (trS o1 v1 o2 v2 B2 (i3 + d - 1)).2.2.2 = L3
  | 0, _, _, hd => absurd hd (by omega)
  | d + 1, hd, hx, _ => by
    have hf := hx d (by omega)
    have hs := tr_s1 (v1 := v1) (v2 := v2) h (n := i3 + d - 1) (by omega) (by rw [show i3 + d - 1 + 1 = i3 + d by omega, hf.1]; omega) (by rw [show i3 + d - 1 + 1 = i3 + d by omega, hf.1]; exact hf.2)
    rw [show i3 + d - 1 + 1 = i3 + d by omega] at hs
    rw [show i3 + (d + 1) - 1 = i3 + d by omega, hs, hf.1]
    refine ⟨by show j3 + d = _; omega, ?_⟩
    show gapL _ _ _ _ = _
    by_cases hd0 : d = 0
    · subst hd0
      rw [show i3 + 0 - 1 = i3 - 1 by omega, show ((i3 - 1 : Nat) : Int) = (i3 : Int) - 1 by omega, Nat.add_zero, hL]
    · obtain ⟨q1, q2⟩ := ph_4 h h1 hj hL d (by omega) (fun x hx2 => hx x (by omega)) (by omega)
      rw [q1, q2]
      unfold gapL
      rw [if_neg (by omega)]
/-- runs end where the bars traced end -/
theorem tr_end (h : ordP o1 o2 B1 B2) : ∀ n, n ≤ B1 → ∀ r, (trS o1 v1 o2 v2 B2 n).2.2.2.getLast? = some r → r.1 ≠ 2 → r.2.1 + r.2.2.2 ≤ (n : Int) + 1
  | 0, _, r, hr, _ => by cases hr
  | n + 1, hn, r, hr, h2 => by
    have ih := tr_end h n (by omega)
    have hext : ∀ (Lr : List oRun) (kd tx : Int), (extL Lr kd ((n + 1 : Nat) : Int) tx).getLast? = some r → r.2.1 + r.2.2.2 ≤ ((n + 1 : Nat) : Int) + 1 := fun Lr kd tx he => by
      unfold extL at he
      split at he
      · next q hq =>
        split at he
        · next hc =>
          rw [List.getLast?_concat] at he
          cases he
          show q.2.1 + (q.2.2.2 + 1) ≤ _
          omega
        · rw [List.getLast?_concat] at he
          cases he
          exact Int.le_refl _
      · rw [List.getLast?_concat] at he
        cases he
        exact Int.le_refl _
    by_cases hc : ccP o1 o2 B2 (n + 1) = 0
    · rw [tr_s0 h hn hc] at hr
      exact hext _ _ _ hr
    · by_cases hv : v1 (n + 1) = v2 (ccP o1 o2 B2 (n + 1))
      · rw [tr_s1 h hn hc hv] at hr
        have hr2 : (gapL (trS o1 v1 o2 v2 B2 n).2.2.2 (n : Int) (((trS o1 v1 o2 v2 B2 n).1 : Int) + 1) ((ccP o1 o2 B2 (n + 1) : Int) - 1)).getLast? = some r := hr
        unfold gapL at hr2
        split at hr2
        · rw [List.getLast?_concat] at hr2
          cases hr2
          exact absurd rfl h2
        · have := ih r hr2 h2
          omega
      · rw [tr_s2 h hn hc hv] at hr
        exact hext _ _ _ hr
/-- the stages of the search: i, j the next bars, Lr the runs so far -/
def facP (o1 o2 : Nat → Int) (B1 B2 i j : Nat) : Prop := i ≤ B1 ∧ j ≤ B2 ∧ ccP o1 o2 B2 i = j
def stH (o1 v1 o2 v2 : Nat → Int) (B1 B2 i j : Nat) (Lr : List oRun) : Prop := (1 ≤ i ∧ i ≤ B1 + 1 ∧ 1 ≤ j ∧ j ≤ B2 + 1) ∧ ((trP o1 v1 o2 v2 B2 (i - 1) + 1 = j ∧ Lr = (trS o1 v1 o2 v2 B2 (i - 1)).2.2.2 ∧ notAt Lr 1 i ∧ (facP o1 o2 B1 B2 i j → notAt Lr 3 i)) ∨ (i = B1 + 1 ∧ j = B2 + 1 ∧ Lr = trL o1 v1 o2 v2 B1 B2))
def st2 (o1 v1 o2 v2 : Nat → Int) (B1 B2 i j : Nat) (Lr : List oRun) : Prop := (1 ≤ i ∧ i ≤ B1 + 1 ∧ 1 ≤ j ∧ j ≤ B2 + 1) ∧ trP o1 v1 o2 v2 B2 (i - 1) + 1 = j ∧ Lr = (trS o1 v1 o2 v2 B2 (i - 1)).2.2.2 ∧ (facP o1 o2 B1 B2 i j → notAt Lr 3 i) ∧ (i = B1 + 1 ∨ ccP o1 o2 B2 i ≠ 0)
def st3 (o1 v1 o2 v2 : Nat → Int) (B1 B2 i j : Nat) (Lr : List oRun) : Prop := (1 ≤ i ∧ i ≤ B1 + 1 ∧ 1 ≤ j ∧ j ≤ B2 + 1) ∧ ((facP o1 o2 B1 B2 i j ∧ gapL (trS o1 v1 o2 v2 B2 (i - 1)).2.2.2 ((i : Int) - 1) (((trS o1 v1 o2 v2 B2 (i - 1)).1 : Int) + 1) ((j : Int) - 1) = Lr ∧ notAt Lr 3 i ∧ (∀ r, Lr.getLast? = some r → r.1 ≠ 2 → r.2.1 + r.2.2.2 ≤ (i : Int))) ∨ (i = B1 + 1 ∧ j = B2 + 1 ∧ Lr = trL o1 v1 o2 v2 B1 B2))
def st4 (o1 v1 o2 v2 : Nat → Int) (B1 B2 i j : Nat) (Lr : List oRun) : Prop := (1 ≤ i ∧ i ≤ B1 + 1 ∧ 1 ≤ j ∧ j ≤ B2 + 1) ∧ ((trP o1 v1 o2 v2 B2 (i - 1) + 1 = j ∧ Lr = (trS o1 v1 o2 v2 B2 (i - 1)).2.2.2 ∧ (∀ r, Lr.getLast? = some r → r.1 = 3 ∧ r.2.1 + r.2.2.2 = (i : Int)) ∧ ¬ (facP o1 o2 B1 B2 i j ∧ v1 i ≠ v2 j)) ∨ (facP o1 o2 B1 B2 i j ∧ v1 i = v2 j ∧ gapL (trS o1 v1 o2 v2 B2 (i - 1)).2.2.2 ((i : Int) - 1) (((trS o1 v1 o2 v2 B2 (i - 1)).1 : Int) + 1) ((j : Int) - 1) = Lr ∧ (∀ r, Lr.getLast? = some r → r.1 ≠ 2 → r.2.1 + r.2.2.2 ≤ (i : Int))) ∨ (i = B1 + 1 ∧ j = B2 + 1 ∧ Lr = trL o1 v1 o2 v2 B1 B2))
theorem tr_len (h9 : B1 + B2 ≤ 198) {n : Nat} (hn : n ≤ B1) : (trS o1 v1 o2 v2 B2 n).2.2.2.length ≤ 198 := by
  have := trS_in (o1 := o1) (v1 := v1) (o2 := o2) (v2 := v2) (B2 := B2) n
  omega
theorem stH_0 : stH o1 v1 o2 v2 B1 B2 1 1 [] := ⟨⟨by omega, by omega, by omega, by omega⟩, Or.inl ⟨rfl, rfl, notAt_n, fun _ => notAt_n⟩⟩
theorem stH_e {i j : Nat} {Lr : List oRun} (h : stH o1 v1 o2 v2 B1 B2 i j Lr) (hi : B1 < i) (hj : B2 < j) : Lr = trL o1 v1 o2 v2 B1 B2 := by
  obtain ⟨⟨a1, a2, a3, a4⟩, h | h⟩ := h
  · obtain ⟨p1, p2, -, -⟩ := h
    have hi2 : i - 1 = B1 := by omega
    rw [hi2] at p1 p2
    unfold trP at p1
    unfold trL gapL
    rw [if_neg (by omega)]
    exact p2
  · exact h.2.2
theorem st_1 (ho : ordP o1 o2 B1 B2) (h9 : B1 + B2 ≤ 198) {i j d : Nat} {Lr : List oRun} (h : stH o1 v1 o2 v2 B1 B2 i j Lr) (hne : i ≤ B1 ∨ j ≤ B2) (hd : i + d ≤ B1 + 1) (hx : ∀ x, i ≤ x → x < i + d → ccP o1 o2 B2 x = 0) (hs : i + d = B1 + 1 ∨ ccP o1 o2 B2 (i + d) ≠ 0) :
    st2 o1 v1 o2 v2 B1 B2 (i + d) j (if d = 0 then Lr else Lr ++ [(1, (i : Int), (j : Int) - 1, (d : Int))]) ∧ (if d = 0 then Lr else Lr ++ [(1, (i : Int), (j : Int) - 1, (d : Int))]).length ≤ 198 := by
  obtain ⟨⟨a1, a2, a3, a4⟩, h | h⟩ := h
  · obtain ⟨p1, p2, p3, p4⟩ := h
    rw [p2] at p3
    have h1 := ph_1 ho a1 p3 d hd hx
    unfold trP at p1
    have e1 : ((trS o1 v1 o2 v2 B2 (i - 1)).1 : Int) = (j : Int) - 1 := by omega
    rw [e1, ← p2] at h1
    refine ⟨⟨⟨by omega, by omega, a3, a4⟩, ?_, ?_, fun hf => ?_, hs⟩, ?_⟩
    · unfold trP
      rw [h1]
      exact p1
    · rw [h1]
    · by_cases hd0 : d = 0
      · subst hd0
        rw [if_pos rfl]
        exact p4 hf
      · rw [if_neg hd0]
        exact notAt_c (fun hc => absurd hc.1 (show ¬ (1 : Int) = 3 by decide))
    · have h2 := tr_len (o1 := o1) (v1 := v1) (o2 := o2) (v2 := v2) h9 (show i + d - 1 ≤ B1 by omega)
      rw [h1] at h2
      exact h2
  · omega
theorem st_2 (ho : ordP o1 o2 B1 B2) (h9 : B1 + B2 ≤ 198) {i j d : Nat} {Lr : List oRun} (h : st2 o1 v1 o2 v2 B1 B2 i j Lr) (hd : j + d ≤ B2 + 1) (hx : ∀ x, j ≤ x → x < j + d → ccP o2 o1 B1 x = 0) (hs : j + d = B2 + 1 ∨ ccP o2 o1 B1 (j + d) ≠ 0) :
    st3 o1 v1 o2 v2 B1 B2 i (j + d) (if d = 0 then Lr else Lr ++ [(2, (i : Int) - 1, (j : Int), (d : Int))]) ∧ (if d = 0 then Lr else Lr ++ [(2, (i : Int) - 1, (j : Int), (d : Int))]).length ≤ 198 := by
  obtain ⟨⟨a1, a2, a3, a4⟩, p1, p2, p3, p4⟩ := h
  have hpa := (tr_pass (v1 := v1) (v2 := v2) ho (i - 1) (by omega)).1
  unfold trP at p1 hpa
  obtain ⟨q1, q2, q3⟩ := hpa
  have hg : gapL (trS o1 v1 o2 v2 B2 (i - 1)).2.2.2 ((i : Int) - 1) (((trS o1 v1 o2 v2 B2 (i - 1)).1 : Int) + 1) (((j + d : Nat) : Int) - 1) = (if d = 0 then Lr else Lr ++ [(2, (i : Int) - 1, (j : Int), (d : Int))]) := by
    unfold gapL
    rw [← p2]
    by_cases hd0 : d = 0
    · rw [if_pos hd0, if_neg (by omega)]
    · rw [if_neg hd0, if_pos (by omega)]
      have e1 : ((trS o1 v1 o2 v2 B2 (i - 1)).1 : Int) + 1 = (j : Int) := by omega
      have e2 : ((j + d : Nat) : Int) - 1 - (j : Int) + 1 = (d : Int) := by omega
      rw [e1, e2]
  by_cases hi : i = B1 + 1
  · have hj : j + d = B2 + 1 := by
      refine hs.elim id (fun hc => ?_)
      rcases ccP_s (o1 := o2) (o2 := o1) (B2 := B1) (n := j + d) with ⟨c1, -⟩ | ⟨c1, c2, c3⟩
      · exact absurd c1 hc
      · by_cases hj2 : j + d ≤ B2
        · have := q3 _ (j + d) c1 (by omega) (by omega) hj2 c3
          omega
        · omega
    have hL : (if d = 0 then Lr else Lr ++ [(2, (i : Int) - 1, (j : Int), (d : Int))]) = trL o1 v1 o2 v2 B1 B2 := by
      rw [← hg]
      unfold trL
      have e1 : i - 1 = B1 := by omega
      have e2 : (i : Int) - 1 = (B1 : Int) := by omega
      have e3 : ((j + d : Nat) : Int) - 1 = (B2 : Int) := by omega
      rw [e1, e2, e3]
    refine ⟨⟨⟨a1, a2, by omega, hd⟩, Or.inr ⟨hi, hj, hL⟩⟩, ?_⟩
    rw [hL]
    unfold trL
    have h2 := trS_in (o1 := o1) (v1 := v1) (o2 := o2) (v2 := v2) (B2 := B2) B1
    have h3 := gapL_len (trS o1 v1 o2 v2 B2 B1).2.2.2 (B1 : Int) (((trS o1 v1 o2 v2 B2 B1).1 : Int) + 1) (B2 : Int)
    by_cases hc : (B2 : Int) < ((trS o1 v1 o2 v2 B2 B1).1 : Int) + 1
    · have := h3.2 hc
      omega
    · omega
  · have hc := p4.resolve_left hi
    obtain ⟨t1, t2, t3⟩ := (ccP_s (o1 := o1) (o2 := o2) (B2 := B2) (n := i)).resolve_left (fun q => hc q.1)
    have hgt : j ≤ ccP o1 o2 B2 i := by
      by_cases hz : (trS o1 v1 o2 v2 B2 (i - 1)).1 = 0
      · omega
      · obtain ⟨m, m1, m2, m3⟩ := q2.resolve_left hz
        have := ord_m ho m1 (show m < i by omega) (show i ≤ B1 by omega) (show 1 ≤ (trS o1 v1 o2 v2 B2 (i - 1)).1 by omega) q1 t1 t2 m3 t3.symm
        omega
    have hle : j + d ≤ ccP o1 o2 B2 i := by
      refine Nat.le_of_not_lt (fun hlt => ?_)
      have hz := hx (ccP o1 o2 B2 i) hgt hlt
      rcases ccP_s (o1 := o2) (o2 := o1) (B2 := B1) (n := ccP o1 o2 B2 i) with ⟨-, c2⟩ | ⟨c1, -, -⟩
      · exact c2 i a1 (by omega) t3.symm
      · omega
    have hge : ccP o1 o2 B2 i ≤ j + d := by
      refine Nat.le_of_not_lt (fun hlt => ?_)
      have hz : ccP o2 o1 B1 (j + d) ≠ 0 := hs.resolve_left (by omega)
      obtain ⟨c1, c2, c3⟩ := (ccP_s (o1 := o2) (o2 := o1) (B2 := B1) (n := j + d)).resolve_left (fun q => hz q.1)
      rcases Nat.lt_trichotomy (ccP o2 o1 B1 (j + d)) i with c | c | c
      · have := q3 _ (j + d) c1 (by omega) (by omega) (by omega) c3
        omega
      · rw [c] at c3
        have := cc_eq ho (n := i) (show 1 ≤ j + d by omega) (by omega) c3.symm
        omega
      · have := ord_m ho a1 c c2 t1 t2 (show 1 ≤ j + d by omega) (by omega) t3.symm c3
        omega
    have hfa : facP o1 o2 B1 B2 i (j + d) := ⟨by omega, by omega, by omega⟩
    have hn3 : notAt (if d = 0 then Lr else Lr ++ [(2, (i : Int) - 1, (j : Int), (d : Int))]) 3 i := by
      by_cases hd0 : d = 0
      · subst hd0
        rw [if_pos rfl]
        exact p3 hfa
      · rw [if_neg hd0]
        exact notAt_c (fun hc => absurd hc.1 (show ¬ (2 : Int) = 3 by decide))
    have hen : ∀ r, (if d = 0 then Lr else Lr ++ [(2, (i : Int) - 1, (j : Int), (d : Int))]).getLast? = some r → r.1 ≠ 2 → r.2.1 + r.2.2.2 ≤ (i : Int) := fun r hr h2 => by
      by_cases hd0 : d = 0
      · rw [if_pos hd0, p2] at hr
        have := tr_end (v1 := v1) (v2 := v2) ho (i - 1) (by omega) r hr h2
        omega
      · rw [if_neg hd0, List.getLast?_concat] at hr
        cases hr
        exact absurd rfl h2
    refine ⟨⟨⟨a1, a2, by omega, hd⟩, Or.inl ⟨hfa, hg, hn3, hen⟩⟩, ?_⟩
    rw [← hg]
    have h2 := tr_len (o1 := o1) (v1 := v1) (o2 := o2) (v2 := v2) h9 (show i ≤ B1 by omega)
    by_cases hv : v1 i = v2 (ccP o1 o2 B2 i)
    · have hs1 := tr_s1 (v1 := v1) (v2 := v2) ho (n := i - 1) (by omega) (by rw [show i - 1 + 1 = i by omega]; exact hc) (by rw [show i - 1 + 1 = i by omega]; exact hv)
      rw [show i - 1 + 1 = i by omega] at hs1
      rw [hs1] at h2
      have e1 : ((i - 1 : Nat) : Int) = (i : Int) - 1 := by omega
      have e2 : ((ccP o1 o2 B2 i : Nat) : Int) - 1 = ((j + d : Nat) : Int) - 1 := by omega
      rw [← e1, ← e2]
      exact h2
    · have hs1 := tr_s2 (v1 := v1) (v2 := v2) ho (n := i - 1) (by omega) (by rw [show i - 1 + 1 = i by omega]; exact hc) (by rw [show i - 1 + 1 = i by omega]; exact hv)
      rw [show i - 1 + 1 = i by omega] at hs1
      rw [hs1] at h2
      have e1 : ((i - 1 : Nat) : Int) = (i : Int) - 1 := by omega
      have e2 : ((ccP o1 o2 B2 i : Nat) : Int) - 1 = ((j + d : Nat) : Int) - 1 := by omega
      rw [← e1, ← e2]
      exact Nat.le_trans (extL_len _ _ _ _).2 h2
theorem st_3 (ho : ordP o1 o2 B1 B2) (h9 : B1 + B2 ≤ 198) {i j d : Nat} {Lr : List oRun} (h : st3 o1 v1 o2 v2 B1 B2 i j Lr) (hx : ∀ x, x < d → facP o1 o2 B1 B2 (i + x) (j + x) ∧ v1 (i + x) ≠ v2 (j + x)) (hs : ¬ (facP o1 o2 B1 B2 (i + d) (j + d) ∧ v1 (i + d) ≠ v2 (j + d))) :
    st4 o1 v1 o2 v2 B1 B2 (i + d) (j + d) (if d = 0 then Lr else Lr ++ [(3, (i : Int), (j : Int), (d : Int))]) ∧ (d ≠ 0 → (Lr ++ [(3, (i : Int), (j : Int), (d : Int))]).length ≤ 198) := by
  obtain ⟨⟨a1, a2, a3, a4⟩, h | h⟩ := h
  · obtain ⟨p1, p2, p3, p4⟩ := h
    by_cases hd0 : d = 0
    · subst hd0
      rw [if_pos rfl]
      refine ⟨⟨⟨a1, a2, a3, a4⟩, Or.inr (Or.inl ⟨p1, ?_, p2, p4⟩)⟩, fun hc => absurd rfl hc⟩
      exact Decidable.byContradiction (fun hc => hs ⟨p1, hc⟩)
    · rw [if_neg hd0]
      have hl := (hx (d - 1) (by omega)).1
      unfold facP at hl
      obtain ⟨r1, r2⟩ := ph_3 ho a1 a3 p2 p3 d (by omega) (fun x hx2 => ⟨(hx x hx2).1.2.2, (hx x hx2).2⟩) (by omega)
      have h2 := tr_len (o1 := o1) (v1 := v1) (o2 := o2) (v2 := v2) h9 (show i + d - 1 ≤ B1 by omega)
      rw [r2] at h2
      refine ⟨⟨⟨by omega, by omega, by omega, by omega⟩, Or.inl ⟨?_, r2.symm, fun r hr => ?_, hs⟩⟩, fun _ => h2⟩
      · unfold trP
        omega
      · rw [List.getLast?_concat] at hr
        cases hr
        exact ⟨rfl, by show (i : Int) + (d : Int) = _; omega⟩
  · by_cases hd0 : d = 0
    · subst hd0
      rw [if_pos rfl]
      exact ⟨⟨⟨a1, a2, a3, a4⟩, Or.inr (Or.inr h)⟩, fun hc => absurd rfl hc⟩
    · have := (hx 0 (by omega)).1.1
      omega
theorem st_4 (ho : ordP o1 o2 B1 B2) {i j d : Nat} {Lr : List oRun} (h : st4 o1 v1 o2 v2 B1 B2 i j Lr) (hx : ∀ x, x < d → facP o1 o2 B1 B2 (i + x) (j + x) ∧ v1 (i + x) = v2 (j + x)) (hs : ¬ (facP o1 o2 B1 B2 (i + d) (j + d) ∧ v1 (i + d) = v2 (j + d))) : stH o1 v1 o2 v2 B1 B2 (i + d) (j + d) Lr := by
  obtain ⟨⟨a1, a2, a3, a4⟩, h | h | h⟩ := h
  · obtain ⟨p1, p2, p3, p4⟩ := h
    by_cases hd0 : d = 0
    · subst hd0
      refine ⟨⟨a1, a2, a3, a4⟩, Or.inl ⟨p1, p2, fun r hr hc => ?_, fun hf => ?_⟩⟩
      · have := (p3 r hr).1
        omega
      · exfalso
        by_cases hv : v1 i = v2 j
        · exact hs ⟨hf, hv⟩
        · exact p4 ⟨hf, hv⟩
    · have hl := (hx (d - 1) (by omega)).1
      unfold facP at hl
      have hg : gapL (trS o1 v1 o2 v2 B2 (i - 1)).2.2.2 ((i : Int) - 1) (((trS o1 v1 o2 v2 B2 (i - 1)).1 : Int) + 1) ((j : Int) - 1) = Lr := by
        unfold trP at p1
        unfold gapL
        rw [if_neg (by omega)]
        exact p2.symm
      obtain ⟨r1, r2⟩ := ph_4 ho a1 a3 hg d (by omega) (fun x hx2 => ⟨(hx x hx2).1.2.2, (hx x hx2).2⟩) (by omega)
      refine ⟨⟨by omega, by omega, by omega, by omega⟩, Or.inl ⟨?_, r2.symm, fun r hr hc => ?_, fun _ r hr hc => ?_⟩⟩
      · unfold trP
        omega
      · have := (p3 r hr).1
        omega
      · have := (p3 r hr).2
        omega
  · obtain ⟨p1, p2, p3, p4⟩ := h
    by_cases hd0 : d = 0
    · subst hd0
      exact absurd ⟨p1, p2⟩ hs
    · have hl := (hx (d - 1) (by omega)).1
      unfold facP at hl
      obtain ⟨r1, r2⟩ := ph_4 ho a1 a3 p3 d (by omega) (fun x hx2 => ⟨(hx x hx2).1.2.2, (hx x hx2).2⟩) (by omega)
      refine ⟨⟨by omega, by omega, by omega, by omega⟩, Or.inl ⟨?_, r2.symm, fun r hr hc => ?_, fun _ r hr hc => ?_⟩⟩
      · unfold trP
        omega
      · have := p4 r hr (by omega)
        omega
      · have := p4 r hr (by omega)
        omega
  · by_cases hd0 : d = 0
    · subst hd0
      exact ⟨⟨a1, a2, a3, a4⟩, Or.inr h⟩
    · have := (hx 0 (by omega)).1.1
      omega
end CMP
