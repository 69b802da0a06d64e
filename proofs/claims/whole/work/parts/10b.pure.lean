/-! comparisons: one memory to the next -/
def oCmR (σ σ2 : oM) (qC : Nat) (Lr : List oRun) (fcx smx : Int) : Prop := oRL σ2 qC Lr ∧ σ2 qC 0 = fcx ∧ σ2 qC 1 = smx ∧ ∀ x, (x < qC ∨ qC + 5 ≤ x) → σ2 x = σ x
theorem oCmR_tr {σ σ1 σ2 : oM} {qC : Nat} {L1 L2 : List oRun} {q1 q2 q3 q4 : Int} (h1 : oCmR σ σ1 qC L1 q1 q2) (h2 : oCmR σ1 σ2 qC L2 q3 q4) : oCmR σ σ2 qC L2 q3 q4 :=
  ⟨h2.1, h2.2.1, h2.2.2.1, fun x hx => (h2.2.2.2 x hx).trans (h1.2.2.2 x hx)⟩
theorem oCmR_rf {σ : oM} {qC : Nat} {Lr : List oRun} (h : oRL σ qC Lr) : oCmR σ σ qC Lr (σ qC 0) (σ qC 1) := ⟨h, rfl, rfl, fun _ _ => rfl⟩
theorem o_bgn_R {σ : oM} {qC : Nat} {Lr : List oRun} {kd bx tx lx : Int} (h : oRL σ qC Lr) : oCmR σ (o_bgn σ qC Lr.length kd bx tx lx) qC (Lr ++ [(kd, bx, tx, lx)]) (σ qC 0) (σ qC 1) :=
  ⟨o_bgn_RL h, o_bgn_q (by decide), o_bgn_q (by decide), fun x hx => o_bgn_ne hx⟩
theorem o_ext_R {σ : oM} {qC nr : Nat} {Lr : List oRun} {r : oRun} (h : oRL σ qC Lr) (hl : Lr.getLast? = some r) (hn : Lr.length = nr + 1) : oCmR σ (o_up σ (qC + 4) nr (r.2.2.2 + 1)) qC (Lr.dropLast ++ [(r.1, r.2.1, r.2.2.1, r.2.2.2 + 1)]) (σ qC 0) (σ qC 1) :=
  ⟨o_ext_RL h hl hn, by rw [o_up_ne (by omega)], by rw [o_up_ne (by omega)], fun x hx => o_up_ne (by omega)⟩
theorem extL_0 {Lr : List oRun} {kd bx tx : Int} (h : Lr.length = 0) : extL Lr kd bx tx = Lr ++ [(kd, bx, tx, 1)] := by
  have : Lr = [] := List.length_eq_zero_iff.mp h
  subst this
  rfl
theorem extL_n {Lr : List oRun} {kd bx tx : Int} {r : oRun} (hl : Lr.getLast? = some r) (h : ¬ (r.1 = kd ∧ r.2.1 + r.2.2.2 = bx)) : extL Lr kd bx tx = Lr ++ [(kd, bx, tx, 1)] := by
  unfold extL
  rw [hl]
  simp only
  rw [if_neg h]
theorem extL_y {Lr : List oRun} {kd bx tx : Int} {r : oRun} (hl : Lr.getLast? = some r) (h : r.1 = kd ∧ r.2.1 + r.2.2.2 = bx) : extL Lr kd bx tx = Lr.dropLast ++ [(r.1, r.2.1, r.2.2.1, r.2.2.2 + 1)] := by
  unfold extL
  rw [hl]
  simp only
  rw [if_pos h]
/-- the last run, as it stands -/
theorem oRL_last {σ : oM} {qC : Nat} {Lr : List oRun} (h : oRL σ qC Lr) (hn : Lr.length ≠ 0) : ∃ (nr : Nat) (r : oRun), Lr.length = nr + 1 ∧ Lr.getLast? = some r ∧ r ∈ Lr ∧ σ (qC + 1) nr = r.1 ∧ σ (qC + 2) nr = r.2.1 ∧ σ (qC + 3) nr = r.2.2.1 ∧ σ (qC + 4) nr = r.2.2.2 := by
  obtain ⟨nr, hnr⟩ : ∃ nr, Lr.length = nr + 1 := ⟨Lr.length - 1, by omega⟩
  have hlt : nr < Lr.length := by omega
  have h1 : Lr[nr]? = some Lr[nr] := List.getElem?_eq_getElem hlt
  obtain ⟨e1, e2, e3, e4⟩ := h.2 nr _ h1
  exact ⟨nr, Lr[nr], hnr, by rw [List.getLast?_eq_getElem?, show Lr.length - 1 = nr by omega]; exact h1, List.getElem_mem hlt, e1, e2, e3, e4⟩
def oRb (Lr : List oRun) : Prop := ∀ r ∈ Lr, (1 ≤ r.1 ∧ r.1 ≤ 3) ∧ (0 ≤ r.2.1 ∧ r.2.1 ≤ 99) ∧ (0 ≤ r.2.2.1 ∧ r.2.2.1 ≤ 99) ∧ (1 ≤ r.2.2.2 ∧ r.2.2.2 ≤ 100)
theorem oRb_app {Lr : List oRun} {kd bx tx lx : Int} (h : oRb Lr) (h1 : 1 ≤ kd ∧ kd ≤ 3) (h2 : 0 ≤ bx ∧ bx ≤ 99) (h3 : 0 ≤ tx ∧ tx ≤ 99) (h4 : 1 ≤ lx ∧ lx ≤ 100) : oRb (Lr ++ [(kd, bx, tx, lx)]) := by
  intro r hr
  rcases List.mem_append.mp hr with h5 | h5
  · exact h r h5
  · rw [List.mem_singleton] at h5
    subst h5
    exact ⟨h1, h2, h3, h4⟩
theorem oRb_ext {Lr : List oRun} {kd bx tx : Int} (h : oRb Lr) (h1 : 1 ≤ kd ∧ kd ≤ 3) (h2 : 0 ≤ bx ∧ bx ≤ 99) (h3 : 0 ≤ tx ∧ tx ≤ 99) : oRb (extL Lr kd bx tx) := by
  unfold extL
  split
  · next r hr =>
    have hm2 : r ∈ Lr := List.mem_of_getLast? hr
    obtain ⟨b1, b2, b3, b4⟩ := h r hm2
    split
    · next hc =>
      intro y hy
      rcases List.mem_append.mp hy with h5 | h5
      · exact h y ((List.dropLast_sublist Lr).subset h5)
      · rw [List.mem_singleton] at h5
        subst h5
        exact ⟨b1, b2, b3, by simp only; omega⟩
    · exact oRb_app h h1 h2 h3 (by omega)
  · exact oRb_app h h1 h2 h3 (by omega)
theorem oRb_gap {Lr : List oRun} {bh fx tx : Int} (h : oRb Lr) (h2 : 0 ≤ bh ∧ bh ≤ 99) (h3 : 1 ≤ fx ∧ tx ≤ 99) : oRb (gapL Lr bh fx tx) := by
  unfold gapL
  split
  · exact oRb_app h (by omega) h2 (by omega) (by omega)
  · exact h
theorem trS_b {o1 v1 o2 v2 : Nat → Int} {B2 : Nat} (hB : B2 ≤ 99) : ∀ n, n ≤ 99 → oRb (trS o1 v1 o2 v2 B2 n).2.2.2
  | 0, _ => fun r hr => by cases hr
  | n + 1, hn => by
    have ih := trS_b (o1 := o1) (v1 := v1) (o2 := o2) (v2 := v2) hB n (by omega)
    obtain ⟨h1, -⟩ := trS_in (o1 := o1) (v1 := v1) (o2 := o2) (v2 := v2) (B2 := B2) n
    unfold trS
    generalize trS o1 v1 o2 v2 B2 n = sx at h1 ih
    obtain ⟨ps, fc, sm, Lr⟩ := sx
    simp only at h1 ih ⊢
    have hsp := fstAt_spec (f := o2) (v := o1 (n + 1)) (n := B2 - ps) (j := ps + 1) (by omega)
    generalize fstAt o2 (o1 (n + 1)) (B2 - ps) (ps + 1) = th at hsp
    by_cases h0 : th = 0
    · rw [if_pos h0]
      exact oRb_ext ih (by omega) (by omega) (by omega)
    · rw [if_neg h0]
      rcases hsp with ⟨hc, -⟩ | ⟨a1, a2, -, -⟩
      · exact absurd hc h0
      · have hg := oRb_gap (Lr := Lr) (bh := (n : Int)) (fx := (ps : Int) + 1) (tx := (th : Int) - 1) ih (by omega) (by omega)
        simp only
        split
        · exact hg
        · exact oRb_ext hg (by omega) (by omega) (by omega)
/-- the comparison of two editions in a memory -/
def trM (σ : oM) (eC aC B2 n : Nat) : Nat × Nat × Nat × List oRun := trS (σ (eC + 1)) (σ (eC + 2)) (σ (aC + 1)) (σ (aC + 2)) B2 n
theorem trM_s0 {σ : oM} {eC aC B2 n : Nat} (h : fstAt (σ (aC + 1)) (σ (eC + 1) (n + 1)) (B2 - (trM σ eC aC B2 n).1) ((trM σ eC aC B2 n).1 + 1) = 0) : trM σ eC aC B2 (n + 1) = ((trM σ eC aC B2 n).1, (trM σ eC aC B2 n).2.1, (trM σ eC aC B2 n).2.2.1, extL (trM σ eC aC B2 n).2.2.2 1 ((n + 1 : Nat) : Int) ((trM σ eC aC B2 n).1 : Int)) := by
  unfold trM at h ⊢
  rw [trS, if_pos h]
theorem trM_s1 {σ : oM} {eC aC B2 n th : Nat} (h : th = fstAt (σ (aC + 1)) (σ (eC + 1) (n + 1)) (B2 - (trM σ eC aC B2 n).1) ((trM σ eC aC B2 n).1 + 1)) (h0 : th ≠ 0) (hv : σ (eC + 2) (n + 1) = σ (aC + 2) th) : trM σ eC aC B2 (n + 1) = (th, (trM σ eC aC B2 n).2.1 + 1, (trM σ eC aC B2 n).2.2.1 + 1, gapL (trM σ eC aC B2 n).2.2.2 (n : Int) (((trM σ eC aC B2 n).1 : Int) + 1) ((th : Int) - 1)) := by
  unfold trM at h ⊢
  rw [trS, ← h, if_neg h0, if_pos hv, if_pos hv]
theorem trM_s2 {σ : oM} {eC aC B2 n th : Nat} (h : th = fstAt (σ (aC + 1)) (σ (eC + 1) (n + 1)) (B2 - (trM σ eC aC B2 n).1) ((trM σ eC aC B2 n).1 + 1)) (h0 : th ≠ 0) (hv : ¬ σ (eC + 2) (n + 1) = σ (aC + 2) th) : trM σ eC aC B2 (n + 1) = (th, (trM σ eC aC B2 n).2.1 + 1, (trM σ eC aC B2 n).2.2.1, extL (gapL (trM σ eC aC B2 n).2.2.2 (n : Int) (((trM σ eC aC B2 n).1 : Int) + 1) ((th : Int) - 1)) 3 ((n + 1 : Nat) : Int) (th : Int)) := by
  unfold trM at h ⊢
  rw [trS, ← h, if_neg h0, if_neg hv, if_neg hv]
/-! copying -/
def o_one (σ : oM) (cC rw_ : Nat) (fb : Int) (th : Nat) (vd : Prop) [Decidable vd] (rp : Int) : oM :=
  if th = 0 then o_up σ cC 2 (σ cC 2 + 1)
  else if σ rw_ th = fb then σ
  else if σ rw_ th ≠ 0 ∧ rp = 0 then o_up σ cC 3 (σ cC 3 + 1)
  else o_up (o_up (o_up (o_up σ cC 3 (σ cC 3 + (if σ rw_ th ≠ 0 then 1 else 0))) rw_ th fb) cC 1 (σ cC 1 + 1)) cC 4 (σ cC 4 + (if vd then 1 else 0))
theorem o_cpr_c {σ : oM} {cC rw_ j : Nat} {sx : oCpS} : o_cpr σ cC rw_ sx cC j = (if j = 0 then 1 else if j = 1 then sx.1.1 else if j = 2 then sx.1.2.1 else if j = 3 then sx.1.2.2.1 else if j = 4 then sx.1.2.2.2 else σ cC j) := by
  unfold o_cpr
  rw [if_pos rfl]
theorem o_cpr_2 {σ : oM} {cC rw_ : Nat} {sx : oCpS} (h : rw_ ≠ cC) (x : Int) : o_up (o_cpr σ cC rw_ sx) cC 2 x = o_cpr σ cC rw_ ((sx.1.1, x, sx.1.2.2.1, sx.1.2.2.2), sx.2) := by
  funext y j
  simp only [o_up, o_cpr]
  repeat' split
  all_goals first | rfl | (exfalso; omega)
theorem o_cpr_3 {σ : oM} {cC rw_ : Nat} {sx : oCpS} (h : rw_ ≠ cC) (x : Int) : o_up (o_cpr σ cC rw_ sx) cC 3 x = o_cpr σ cC rw_ ((sx.1.1, sx.1.2.1, x, sx.1.2.2.2), sx.2) := by
  funext y j
  simp only [o_up, o_cpr]
  repeat' split
  all_goals first | rfl | (exfalso; omega)
theorem o_cpr_1 {σ : oM} {cC rw_ : Nat} {sx : oCpS} (h : rw_ ≠ cC) (x : Int) : o_up (o_cpr σ cC rw_ sx) cC 1 x = o_cpr σ cC rw_ ((x, sx.1.2.1, sx.1.2.2.1, sx.1.2.2.2), sx.2) := by
  funext y j
  simp only [o_up, o_cpr]
  repeat' split
  all_goals first | rfl | (exfalso; omega)
theorem o_cpr_4 {σ : oM} {cC rw_ : Nat} {sx : oCpS} (h : rw_ ≠ cC) (x : Int) : o_up (o_cpr σ cC rw_ sx) cC 4 x = o_cpr σ cC rw_ ((sx.1.1, sx.1.2.1, sx.1.2.2.1, x), sx.2) := by
  funext y j
  simp only [o_up, o_cpr]
  repeat' split
  all_goals first | rfl | (exfalso; omega)
theorem o_cpr_w {σ : oM} {cC rw_ th : Nat} {sx : oCpS} {x : Int} (h : rw_ ≠ cC) : o_up (o_cpr σ cC rw_ sx) rw_ th x = o_cpr σ cC rw_ (sx.1, updF sx.2 th x) := by
  funext y j
  simp only [o_up, o_cpr, updF]
  repeat' split
  all_goals first | rfl | (exfalso; omega)
theorem o_cpr_0 {σ : oM} {cC rw_ : Nat} (h : rw_ ≠ cC) : o_up (o_up (o_up (o_up (o_up σ cC 0 1) cC 1 0) cC 2 0) cC 3 0) cC 4 0 = o_cpr σ cC rw_ ((0, 0, 0, 0), σ rw_) := by
  funext y j
  simp only [o_up, o_cpr]
  repeat' split
  all_goals first | rfl | (exfalso; omega) | simp_all
theorem o_one_s {σ : oM} {cC rw_ th : Nat} {fb rp : Int} {sx : oCpS} {vd : Prop} [Decidable vd] (h : rw_ ≠ cC) : o_one (o_cpr σ cC rw_ sx) cC rw_ fb th vd rp = o_cpr σ cC rw_ (cpStep sx fb th (decide vd) rp) := by
  unfold o_one cpStep
  rw [o_cpr_row h]
  by_cases h1 : th = 0
  · rw [if_pos h1, if_pos h1, o_cpr_2 h, o_cpr_c]
    rfl
  · rw [if_neg h1, if_neg h1]
    by_cases h2 : sx.2 th = fb
    · rw [if_pos h2, if_pos h2]
    · rw [if_neg h2, if_neg h2]
      by_cases h3 : sx.2 th ≠ 0 ∧ rp = 0
      · rw [if_pos h3, if_pos h3, o_cpr_3 h, o_cpr_c]
        rfl
      · rw [if_neg h3, if_neg h3, o_cpr_3 h, o_cpr_w h, o_cpr_1 h, o_cpr_4 h]
        simp only [o_cpr_c, decide_eq_true_eq]
        rfl
theorem cpS_in {fb o1 v1 o2 v2 t0x : Nat → Int} {B2 : Nat} {rp : Int} (h0 : ∀ j, 1 ≤ j → j ≤ B2 → 0 ≤ t0x j ∧ t0x j ≤ 4) : ∀ n, (∀ j, 1 ≤ j → j ≤ n → 0 ≤ fb j ∧ fb j ≤ 4) → ∀ j, 1 ≤ j → j ≤ B2 → 0 ≤ (cpS fb o1 v1 o2 v2 B2 rp t0x n).2 j ∧ (cpS fb o1 v1 o2 v2 B2 rp t0x n).2 j ≤ 4
  | 0, _ => h0
  | n + 1, hf => by
    have ih := cpS_in (o1 := o1) (v1 := v1) (o2 := o2) (v2 := v2) (rp := rp) h0 n (fun j a b => hf j a (by omega))
    have hfn := hf (n + 1) (by omega) (by omega)
    intro j j1 j2
    have ihj := ih j j1 j2
    unfold cpS
    split
    · exact ihj
    · unfold cpStep
      split
      · exact ihj
      · split
        · exact ihj
        · split
          · exact ihj
          · simp only [updF]
            split
            · exact hfn
            · exact ihj
