/-! rows of an edition by number: p of the first four, q of the bowings -/
def rowK (e p q : Nat) : Nat → Bool := fun x => decide ((e + 1 ≤ x ∧ x < e + 1 + p) ∨ (e + 6 ≤ x ∧ x < e + 6 + q))
theorem rowK_t {e p q x : Nat} : rowK e p q x = true ↔ ((e + 1 ≤ x ∧ x < e + 1 + p) ∨ (e + 6 ≤ x ∧ x < e + 6 + q)) := by simp [rowK]
theorem rowK_f {e p q x : Nat} : rowK e p q x = false ↔ ¬ ((e + 1 ≤ x ∧ x < e + 1 + p) ∨ (e + 6 ≤ x ∧ x < e + 6 + q)) := by
  unfold rowK
  rw [decide_eq_false_iff_not]
theorem rowK_00 (e : Nat) : rowK e 0 0 = fun _ => false := by
  funext x
  rw [rowK_f]
  omega
theorem o_bS {S S' : Nat → Bool} {r : Nat} (h : ∀ x, S' x = true ↔ (S x = true ∨ x = r)) : (fun x => S x || x == r) = S' := by
  funext x
  rw [Bool.eq_iff_iff, h x, Bool.or_eq_true, beq_iff_eq]
theorem o_mv_add' {σ : oM} {S S' : Nat → Bool} {sp dp n r : Nat} (h : S r = false) (hS : ∀ x, S' x = true ↔ (S x = true ∨ x = r)) : o_cp (o_mv σ S sp dp n) r sp r dp n = o_mv σ S' sp dp n := by
  rw [o_mv_add h, o_bS hS]
theorem o_bl_add' {σ : oM} {S S' : Nat → Bool} {e a dp n k : Nat} (h : S (a + k) = false) (hS : ∀ x, S' x = true ↔ (S x = true ∨ x = e + k)) : o_cp (o_bl σ S e a dp n) (a + k) dp (e + k) dp n = o_bl σ S' e a dp n := by
  rw [o_bl_add h, o_bS hS]
theorem o_mv_n0 {σ : oM} {S : Nat → Bool} {sp dp : Nat} : o_mv σ S sp dp 0 = σ := by
  funext x j
  unfold o_mv
  rw [if_neg (by omega)]
theorem o_mv4 {σ : oM} {e sp dp n : Nat} : o_cp (o_cp (o_cp (o_cp σ (e + 1) sp (e + 1) dp n) (e + 2) sp (e + 2) dp n) (e + 3) sp (e + 3) dp n) (e + 4) sp (e + 4) dp n = o_mv σ (rowK e 4 0) sp dp n := by
  have h0 : σ = o_mv σ (rowK e 0 0) sp dp n := by rw [rowK_00, o_mv_0]
  conv => lhs; rw [h0]
  rw [o_mv_add' (S' := rowK e 1 0) (by rw [rowK_f]; omega) (fun x => by rw [rowK_t, rowK_t]; omega), o_mv_add' (S' := rowK e 2 0) (by rw [rowK_f]; omega) (fun x => by rw [rowK_t, rowK_t]; omega), o_mv_add' (S' := rowK e 3 0) (by rw [rowK_f]; omega) (fun x => by rw [rowK_t, rowK_t]; omega), o_mv_add' (S' := rowK e 4 0) (by rw [rowK_f]; omega) (fun x => by rw [rowK_t, rowK_t]; omega)]
theorem o_mvb {σ : oM} {e sp dp n i : Nat} : o_cp (o_mv σ (rowK e 4 i) sp dp n) (e + 6 + i) sp (e + 6 + i) dp n = o_mv σ (rowK e 4 (i + 1)) sp dp n :=
  o_mv_add' (by rw [rowK_f]; omega) (fun x => by rw [rowK_t, rowK_t]; omega)
theorem o_bl4 {σ : oM} {e a n : Nat} (hd : e + 13 ≤ a ∨ a + 13 ≤ e) : o_cp (o_cp (o_cp (o_cp σ (a + 1) 1 (e + 1) 1 n) (a + 2) 1 (e + 2) 1 n) (a + 3) 1 (e + 3) 1 n) (a + 4) 1 (e + 4) 1 n = o_bl σ (rowK e 4 0) e a 1 n := by
  have h0 : σ = o_bl σ (rowK e 0 0) e a 1 n := by rw [rowK_00, o_bl_0]
  conv => lhs; rw [h0]
  rw [o_bl_add' (S' := rowK e 1 0) (by rw [rowK_f]; omega) (fun x => by rw [rowK_t, rowK_t]; omega), o_bl_add' (S' := rowK e 2 0) (by rw [rowK_f]; omega) (fun x => by rw [rowK_t, rowK_t]; omega), o_bl_add' (S' := rowK e 3 0) (by rw [rowK_f]; omega) (fun x => by rw [rowK_t, rowK_t]; omega), o_bl_add' (S' := rowK e 4 0) (by rw [rowK_f]; omega) (fun x => by rw [rowK_t, rowK_t]; omega)]
theorem o_blb {σ : oM} {e a n i : Nat} (hd : e + 13 ≤ a ∨ a + 13 ≤ e) (hi : i < 4) : o_cp (o_bl σ (rowK e 4 i) e a 1 n) (a + 6 + i) 1 (e + 6 + i) 1 n = o_bl σ (rowK e 4 (i + 1)) e a 1 n := by
  rw [Nat.add_assoc a, Nat.add_assoc e 6 i]
  exact o_bl_add' (by rw [rowK_f]; omega) (fun x => by rw [rowK_t, rowK_t]; omega)
/-- copies of an edition's parts all 0 -/
def o_clr (σ : oM) (e n : Nat) : oM := fun x j => if (x = e + 10 ∨ x = e + 11 ∨ x = e + 12) ∧ j < n then 0 else σ x j
theorem o_clr_0 {σ : oM} {e : Nat} : o_clr σ e 0 = σ := by
  funext x j
  unfold o_clr
  rw [if_neg (by omega)]
theorem o_clr_s {σ : oM} {e n : Nat} : o_up (o_up (o_up (o_clr σ e n) (e + 10) n 0) (e + 11) n 0) (e + 12) n 0 = o_clr σ e (n + 1) := by
  funext x j
  simp only [o_up, o_clr]
  repeat' split
  all_goals first | rfl | (exfalso; omega)
theorem o_clr_ne {σ : oM} {e n x : Nat} (h : x < e + 10 ∨ e + 12 < x) : o_clr σ e n x = σ x := by
  funext j
  unfold o_clr
  rw [if_neg (by omega)]
/-- what a new bar's rows hold -/
def newV (e x : Nat) (beats org : Int) : Int := if x = e + 1 then org else if x = e + 3 then beats else 0
/-- bars f to j - 1 made new; of bar j the first four rows (if p = 4) and q rows of bowings -/
def o_fl (σ : oM) (e f j p q : Nat) (beats first : Int) : oM := fun x y => if (f ≤ y ∧ y < j ∧ rowK e 4 4 x = true) ∨ (y = j ∧ rowK e p q x = true) then newV e x beats (first + (y : Int) - (f : Int)) else σ x y
theorem o_fl_0 {σ : oM} {e f : Nat} {beats first : Int} : o_fl σ e f f 0 0 beats first = σ := by
  funext x y
  unfold o_fl
  rw [if_neg]
  rw [rowK_t, rowK_t]
  omega
theorem o_fl_4 {σ : oM} {e f j : Nat} {beats first : Int} : o_up (o_up (o_up (o_up (o_fl σ e f j 0 0 beats first) (e + 1) j (first + (j : Int) - (f : Int))) (e + 2) j 0) (e + 3) j beats) (e + 4) j 0 = o_fl σ e f j 4 0 beats first := by
  funext x y
  simp only [o_up, o_fl, rowK_t, newV]
  repeat' split
  all_goals first | rfl | (exfalso; omega) | (subst_vars; omega) | (simp_all; done)
theorem o_fl_b {σ : oM} {e f j i : Nat} {beats first : Int} (hf : f ≤ j) (hi : i < 4) : o_up (o_fl σ e f j 4 i beats first) (e + 6 + i) j 0 = o_fl σ e f j 4 (i + 1) beats first := by
  funext x y
  simp only [o_up, o_fl, rowK_t, newV]
  repeat' split
  all_goals first | rfl | (exfalso; omega)
theorem o_fl_n {σ : oM} {e f j : Nat} {beats first : Int} (hf : f ≤ j) : o_fl σ e f j 4 4 beats first = o_fl σ e f (j + 1) 0 0 beats first := by
  funext x y
  simp only [o_fl, rowK_t]
  repeat' split
  all_goals first | rfl | (exfalso; omega)
theorem o_fl_ne {σ : oM} {e f j x : Nat} {beats first : Int} (h : rowK e 4 4 x = false) : o_fl σ e f j 0 0 beats first x = σ x := by
  funext y
  unfold o_fl
  rw [rowK_f] at h
  rw [if_neg]
  rw [rowK_t, rowK_t]
  omega
theorem o_fl_in {σ : oM} {e f j x y : Nat} {beats first : Int} (h : rowK e 4 4 x = true) (h1 : f ≤ y) (h2 : y < j) : o_fl σ e f j 0 0 beats first x y = newV e x beats (first + (y : Int) - (f : Int)) := by
  unfold o_fl
  rw [if_pos (Or.inl ⟨h1, h2, h⟩)]
theorem o_fl_out {σ : oM} {e f j x y : Nat} {beats first : Int} (h1 : y < f ∨ j ≤ y) : o_fl σ e f j 0 0 beats first x y = σ x y := by
  unfold o_fl
  rw [if_neg]
  rw [rowK_t, rowK_t]
  omega
/-- an edition at e made like that at a, of B bars -/
def o_like (σ : oM) (e a B : Nat) : oM := o_cp (o_cp (o_cp (o_bl (o_up (o_up (o_up σ e 0 (σ a 0)) e 1 (σ a 1)) e 2 (σ a 2)) (rowK e 4 4) e a 1 B) (a + 10) 0 (e + 10) 0 6) (a + 11) 0 (e + 11) 0 6) (a + 12) 0 (e + 12) 0 6
