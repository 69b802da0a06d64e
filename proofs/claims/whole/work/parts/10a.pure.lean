/-! comparisons: the runs as a list of (kind, one, other, length) -/
abbrev oRun : Type := Int × Int × Int × Int
def extL (Lr : List oRun) (kd bx tx : Int) : List oRun :=
  match Lr.getLast? with
  | some r => if r.1 = kd ∧ r.2.1 + r.2.2.2 = bx then Lr.dropLast ++ [(r.1, r.2.1, r.2.2.1, r.2.2.2 + 1)] else Lr ++ [(kd, bx, tx, 1)]
  | none => Lr ++ [(kd, bx, tx, 1)]
def gapL (Lr : List oRun) (bh fx tx : Int) : List oRun := if fx ≤ tx then Lr ++ [(2, bh, fx, tx - fx + 1)] else Lr
/-- the comparison behind n bars of the first: passed, facing, of the same version, runs -/
def trS (o1 v1 o2 v2 : Nat → Int) (B2 : Nat) : Nat → Nat × Nat × Nat × List oRun
  | 0 => (0, 0, 0, [])
  | n + 1 =>
    if fstAt o2 (o1 (n + 1)) (B2 - (trS o1 v1 o2 v2 B2 n).1) ((trS o1 v1 o2 v2 B2 n).1 + 1) = 0 then ((trS o1 v1 o2 v2 B2 n).1, (trS o1 v1 o2 v2 B2 n).2.1, (trS o1 v1 o2 v2 B2 n).2.2.1, extL (trS o1 v1 o2 v2 B2 n).2.2.2 1 ((n + 1 : Nat) : Int) ((trS o1 v1 o2 v2 B2 n).1 : Int))
    else (fstAt o2 (o1 (n + 1)) (B2 - (trS o1 v1 o2 v2 B2 n).1) ((trS o1 v1 o2 v2 B2 n).1 + 1), (trS o1 v1 o2 v2 B2 n).2.1 + 1,
      (if v1 (n + 1) = v2 (fstAt o2 (o1 (n + 1)) (B2 - (trS o1 v1 o2 v2 B2 n).1) ((trS o1 v1 o2 v2 B2 n).1 + 1)) then (trS o1 v1 o2 v2 B2 n).2.2.1 + 1 else (trS o1 v1 o2 v2 B2 n).2.2.1),
      (if v1 (n + 1) = v2 (fstAt o2 (o1 (n + 1)) (B2 - (trS o1 v1 o2 v2 B2 n).1) ((trS o1 v1 o2 v2 B2 n).1 + 1)) then gapL (trS o1 v1 o2 v2 B2 n).2.2.2 (n : Int) (((trS o1 v1 o2 v2 B2 n).1 : Int) + 1) ((fstAt o2 (o1 (n + 1)) (B2 - (trS o1 v1 o2 v2 B2 n).1) ((trS o1 v1 o2 v2 B2 n).1 + 1) : Int) - 1)
        else extL (gapL (trS o1 v1 o2 v2 B2 n).2.2.2 (n : Int) (((trS o1 v1 o2 v2 B2 n).1 : Int) + 1) ((fstAt o2 (o1 (n + 1)) (B2 - (trS o1 v1 o2 v2 B2 n).1) ((trS o1 v1 o2 v2 B2 n).1 + 1) : Int) - 1)) 3 ((n + 1 : Nat) : Int) ((fstAt o2 (o1 (n + 1)) (B2 - (trS o1 v1 o2 v2 B2 n).1) ((trS o1 v1 o2 v2 B2 n).1 + 1) : Nat) : Int)))
/-- all runs -/
def trL (o1 v1 o2 v2 : Nat → Int) (B1 B2 : Nat) : List oRun := gapL (trS o1 v1 o2 v2 B2 B1).2.2.2 (B1 : Int) (((trS o1 v1 o2 v2 B2 B1).1 : Int) + 1) (B2 : Int)
theorem extL_len (Lr : List oRun) (kd bx tx : Int) : (extL Lr kd bx tx).length ≤ Lr.length + 1 ∧ Lr.length ≤ (extL Lr kd bx tx).length := by
  unfold extL
  split
  · next r hr =>
    have hne : Lr ≠ [] := fun h => by rw [h] at hr; cases hr
    have hl : 0 < Lr.length := List.length_pos_iff.mpr hne
    split
    · simp only [List.length_append, List.length_dropLast, List.length_cons, List.length_nil]
      omega
    · simp only [List.length_append, List.length_cons, List.length_nil]
      omega
  · simp only [List.length_append, List.length_cons, List.length_nil]
    omega
theorem gapL_len (Lr : List oRun) (bh fx tx : Int) : ((gapL Lr bh fx tx).length ≤ Lr.length + 1 ∧ (tx < fx → (gapL Lr bh fx tx).length = Lr.length)) := by
  unfold gapL
  split
  · simp only [List.length_append, List.length_cons, List.length_nil]
    exact ⟨Nat.le_refl _, fun h => by omega⟩
  · exact ⟨by omega, fun _ => rfl⟩
/-- passed lies in the second; there is room for all runs -/
theorem trS_in {o1 v1 o2 v2 : Nat → Int} {B2 : Nat} : ∀ n, (trS o1 v1 o2 v2 B2 n).1 ≤ B2 ∧ (trS o1 v1 o2 v2 B2 n).2.2.2.length + (trS o1 v1 o2 v2 B2 n).2.1 ≤ n + (trS o1 v1 o2 v2 B2 n).1 ∧ (trS o1 v1 o2 v2 B2 n).2.1 ≤ n ∧ (trS o1 v1 o2 v2 B2 n).2.2.1 ≤ n
  | 0 => by simp [trS]
  | n + 1 => by
    obtain ⟨h1, h2, h3, h4⟩ := trS_in (o1 := o1) (v1 := v1) (o2 := o2) (v2 := v2) (B2 := B2) n
    unfold trS
    generalize trS o1 v1 o2 v2 B2 n = sx at h1 h2 h3 h4
    obtain ⟨ps, fc, sm, Lr⟩ := sx
    simp only at h1 h2 h3 h4 ⊢
    have hsp := fstAt_spec (f := o2) (v := o1 (n + 1)) (n := B2 - ps) (j := ps + 1) (by omega)
    generalize fstAt o2 (o1 (n + 1)) (B2 - ps) (ps + 1) = th at hsp
    by_cases h0 : th = 0
    · rw [if_pos h0]
      have := extL_len Lr 1 ((n + 1 : Nat) : Int) (ps : Int)
      simp only
      omega
    · rw [if_neg h0]
      rcases hsp with ⟨hc, -⟩ | ⟨a1, a2, -, -⟩
      · exact absurd hc h0
      · have hg := gapL_len Lr (n : Int) ((ps : Int) + 1) ((th : Int) - 1)
        have he := extL_len (gapL Lr (n : Int) ((ps : Int) + 1) ((th : Int) - 1)) 3 ((n + 1 : Nat) : Int) ((th : Nat) : Int)
        simp only
        refine ⟨by omega, ?_, by omega, ?_⟩
        · by_cases hv : v1 (n + 1) = v2 th
          · rw [if_pos hv]
            by_cases hth : th = ps + 1
            · have := hg.2 (by omega)
              omega
            · omega
          · rw [if_neg hv]
            by_cases hth : th = ps + 1
            · have := hg.2 (by omega)
              omega
            · omega
        · split <;> omega
/-- the runs stand in the comparison's rows -/
def oRL (σ : oM) (qC : Nat) (Lr : List oRun) : Prop := σ qC 2 = (Lr.length : Int) ∧ ∀ (ix : Nat) (r : oRun), Lr[ix]? = some r → σ (qC + 1) ix = r.1 ∧ σ (qC + 2) ix = r.2.1 ∧ σ (qC + 3) ix = r.2.2.1 ∧ σ (qC + 4) ix = r.2.2.2
def oCm (T : oT) (qC : Nat) : Prop := T.2.1 qC = (3, 0) ∧ T.2.2 qC 3 = some (qC + 1) ∧ T.2.2 qC 4 = some (qC + 2) ∧ T.2.2 qC 5 = some (qC + 3) ∧ T.2.2 qC 6 = some (qC + 4) ∧ T.2.1 (qC + 1) = (10, 198) ∧ T.2.1 (qC + 2) = (10, 198) ∧ T.2.1 (qC + 3) = (10, 198) ∧ T.2.1 (qC + 4) = (10, 198) ∧ qC + 5 ≤ T.1
/-- a run begun -/
def o_bgn (σ : oM) (qC Nr : Nat) (kd bx tx lx : Int) : oM := o_up (o_up (o_up (o_up (o_up σ (qC + 1) Nr kd) (qC + 2) Nr bx) (qC + 3) Nr tx) (qC + 4) Nr lx) qC 2 ((Nr : Int) + 1)
theorem o_bgn_ne {σ : oM} {qC Nr x : Nat} {kd bx tx lx : Int} (h : x < qC ∨ qC + 5 ≤ x) : o_bgn σ qC Nr kd bx tx lx x = σ x := by
  unfold o_bgn
  rw [o_up_ne (by omega), o_up_ne (by omega), o_up_ne (by omega), o_up_ne (by omega), o_up_ne (by omega)]
theorem o_bgn_q {σ : oM} {qC Nr kx : Nat} {kd bx tx lx : Int} (h : kx ≠ 2) : o_bgn σ qC Nr kd bx tx lx qC kx = σ qC kx := by
  unfold o_bgn
  rw [o_up_nj (Or.inr h), o_up_ne (by omega), o_up_ne (by omega), o_up_ne (by omega), o_up_ne (by omega)]
theorem o_bgn_RL {σ : oM} {qC : Nat} {Lr : List oRun} {kd bx tx lx : Int} (h : oRL σ qC Lr) : oRL (o_bgn σ qC Lr.length kd bx tx lx) qC (Lr ++ [(kd, bx, tx, lx)]) := by
  obtain ⟨h1, h2⟩ := h
  refine ⟨by unfold o_bgn; rw [o_up_at, List.length_append, List.length_cons, List.length_nil]; omega, fun ix r hr => ?_⟩
  have e1 : o_bgn σ qC Lr.length kd bx tx lx (qC + 1) ix = if ix = Lr.length then kd else σ (qC + 1) ix := by
    unfold o_bgn
    rw [o_up_ne (by omega), o_up_ne (by omega), o_up_ne (by omega), o_up_ne (by omega)]
    simp [o_up]
  have e2 : o_bgn σ qC Lr.length kd bx tx lx (qC + 2) ix = if ix = Lr.length then bx else σ (qC + 2) ix := by
    unfold o_bgn
    rw [o_up_ne (by omega), o_up_ne (by omega), o_up_ne (by omega)]
    simp [o_up]
  have e3 : o_bgn σ qC Lr.length kd bx tx lx (qC + 3) ix = if ix = Lr.length then tx else σ (qC + 3) ix := by
    unfold o_bgn
    rw [o_up_ne (by omega), o_up_ne (by omega)]
    simp [o_up]
  have e4 : o_bgn σ qC Lr.length kd bx tx lx (qC + 4) ix = if ix = Lr.length then lx else σ (qC + 4) ix := by
    unfold o_bgn
    rw [o_up_ne (by omega)]
    simp [o_up]
  rw [e1, e2, e3, e4]
  by_cases hi : ix = Lr.length
  · subst hi
    rw [List.getElem?_append_right (Nat.le_refl _), Nat.sub_self] at hr
    cases hr
    simp
  · have hl : ix < Lr.length := by
      have := (List.getElem?_eq_some_iff.mp hr).1
      rw [List.length_append, List.length_cons, List.length_nil] at this
      omega
    rw [List.getElem?_append_left hl] at hr
    simp only [if_neg hi]
    exact h2 ix r hr
theorem o_ext_RL {σ : oM} {qC nr : Nat} {Lr : List oRun} {r : oRun} (h : oRL σ qC Lr) (hl : Lr.getLast? = some r) (hn : Lr.length = nr + 1) : oRL (o_up σ (qC + 4) nr (r.2.2.2 + 1)) qC (Lr.dropLast ++ [(r.1, r.2.1, r.2.2.1, r.2.2.2 + 1)]) := by
  obtain ⟨h1, h2⟩ := h
  have hd : Lr.dropLast.length = nr := by rw [List.length_dropLast]; omega
  have hlast : Lr[nr]? = some r := by
    rw [List.getLast?_eq_getElem?, show Lr.length - 1 = nr by omega] at hl
    exact hl
  refine ⟨by rw [o_up_ne (by omega), h1, List.length_append, hd, List.length_cons, List.length_nil, hn], fun ix y hy => ?_⟩
  rw [o_up_ne (show qC + 1 ≠ qC + 4 by omega), o_up_ne (show qC + 2 ≠ qC + 4 by omega), o_up_ne (show qC + 3 ≠ qC + 4 by omega)]
  by_cases hi : ix = nr
  · subst hi
    rw [List.getElem?_append_right (by omega), hd, Nat.sub_self] at hy
    cases hy
    have h3 := h2 _ r hlast
    exact ⟨h3.1, h3.2.1, h3.2.2.1, o_up_at⟩
  · have hl2 : ix < nr := by
      have := (List.getElem?_eq_some_iff.mp hy).1
      rw [List.length_append, hd, List.length_cons, List.length_nil] at this
      omega
    rw [List.getElem?_append_left (by omega), List.getElem?_dropLast, if_pos (by omega)] at hy
    rw [o_up_nj (Or.inr hi)]
    exact h2 ix y hy
theorem oRL_fr {σ σ2 : oM} {qC : Nat} {Lr : List oRun} (h : oRL σ qC Lr) (h0 : σ2 qC 2 = σ qC 2) (hf : ∀ x, qC < x → x < qC + 5 → σ2 x = σ x) : oRL σ2 qC Lr := by
  obtain ⟨h1, h2⟩ := h
  refine ⟨by rw [h0]; exact h1, fun ix r hr => ?_⟩
  rw [hf _ (by omega) (by omega), hf _ (by omega) (by omega), hf _ (by omega) (by omega), hf _ (by omega) (by omega)]
  exact h2 ix r hr
/-! bowings copied -/
/-- counts: put, dropped, clashes, doubtful; the row to which they are copied -/
abbrev oCpS : Type := (Int × Int × Int × Int) × (Nat → Int)
def updF (f : Nat → Int) (k : Nat) (x : Int) : Nat → Int := fun j => if j = k then x else f j
/-- one bar's bowing copied: fb its bowing, th its place there, vd whether the versions differ -/
def cpStep (sx : oCpS) (fb : Int) (th : Nat) (vd : Bool) (rp : Int) : oCpS :=
  if th = 0 then ((sx.1.1, sx.1.2.1 + 1, sx.1.2.2.1, sx.1.2.2.2), sx.2)
  else if sx.2 th = fb then sx
  else if sx.2 th ≠ 0 ∧ rp = 0 then ((sx.1.1, sx.1.2.1, sx.1.2.2.1 + 1, sx.1.2.2.2), sx.2)
  else ((sx.1.1 + 1, sx.1.2.1, sx.1.2.2.1 + (if sx.2 th ≠ 0 then 1 else 0), sx.1.2.2.2 + (if vd = true then 1 else 0)), updF sx.2 th fb)
/-- the bowings fb of n bars copied -/
def cpS (fb o1 v1 o2 v2 : Nat → Int) (B2 : Nat) (rp : Int) (t0x : Nat → Int) : Nat → oCpS
  | 0 => ((0, 0, 0, 0), t0x)
  | n + 1 => if fb (n + 1) = 0 then cpS fb o1 v1 o2 v2 B2 rp t0x n else cpStep (cpS fb o1 v1 o2 v2 B2 rp t0x n) (fb (n + 1)) (fstAt o2 (o1 (n + 1)) B2 1) (decide (v1 (n + 1) ≠ v2 (fstAt o2 (o1 (n + 1)) B2 1))) rp
/-- the memory with a copier's counts and a row -/
def o_cpr (σ : oM) (cC rw_ : Nat) (sx : oCpS) : oM := fun x j => if x = cC then (if j = 0 then 1 else if j = 1 then sx.1.1 else if j = 2 then sx.1.2.1 else if j = 3 then sx.1.2.2.1 else if j = 4 then sx.1.2.2.2 else σ x j) else if x = rw_ then sx.2 j else σ x j
theorem o_cpr_ne {σ : oM} {cC rw_ x : Nat} {sx : oCpS} (h1 : x ≠ cC) (h2 : x ≠ rw_) : o_cpr σ cC rw_ sx x = σ x := by
  funext j
  unfold o_cpr
  rw [if_neg h1, if_neg h2]
theorem o_cpr_row {σ : oM} {cC rw_ : Nat} {sx : oCpS} (h : rw_ ≠ cC) : o_cpr σ cC rw_ sx rw_ = sx.2 := by
  funext j
  unfold o_cpr
  rw [if_neg h, if_pos rfl]
/-! boxes -/
def oBx (T : oT) (aC : Nat) : Prop := T.2.1 aC = (1, 0) ∧ T.2.2 aC 2 = some (aC + 1) ∧ T.2.2 aC 3 = some (aC + 2) ∧ T.2.1 (aC + 1) = (10, 8) ∧ T.2.1 (aC + 2) = (10, 8) ∧ aC + 3 ≤ T.1
def o_emp (σ : oM) (aC n : Nat) : oM := fun x j => if x = aC + 1 ∧ j < n then -1 else σ x j
theorem o_emp_0 {σ : oM} {aC : Nat} : o_emp σ aC 0 = σ := by
  funext x j
  unfold o_emp
  rw [if_neg (by omega)]
theorem o_emp_s {σ : oM} {aC n : Nat} : o_up (o_emp σ aC n) (aC + 1) n (-1) = o_emp σ aC (n + 1) := by
  funext x j
  simp only [o_up, o_emp]
  repeat' split
  all_goals first | rfl | (exfalso; omega)
/-- whether a box of a sort takes an instrument's part, -1 for a score -/
def takesF (so ins : Int) : Prop := if so = 1 then ins = -1 else if so = 2 then ins ≠ -1 else if so = 3 then (0 ≤ ins ∧ ins ≤ 3) else True
