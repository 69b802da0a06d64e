/-! pure words: searches, sums; the shapes of objects -/
/-- the first place from j on, of n, that holds v; 0 if none -/
def fstAt (f : Nat → Int) (v : Int) : Nat → Nat → Nat
  | 0, _ => 0
  | n + 1, j => if f j = v then j else fstAt f v n (j + 1)
theorem fstAt_congr {f g : Nat → Int} {v : Int} : ∀ {n j : Nat}, (∀ i, j ≤ i → i < j + n → f i = g i) → fstAt f v n j = fstAt g v n j
  | 0, _, _ => rfl
  | n + 1, j, h => by
    unfold fstAt
    rw [h j (Nat.le_refl _) (by omega), fstAt_congr (n := n) (j := j + 1) (fun i h1 h2 => h i (by omega) (by omega))]
/-- the place found holds v, is in range, and none ahead of it does -/
theorem fstAt_spec {f : Nat → Int} {v : Int} : ∀ {n j : Nat}, 0 < j → (fstAt f v n j = 0 ∧ ∀ i, j ≤ i → i < j + n → f i ≠ v) ∨ (j ≤ fstAt f v n j ∧ fstAt f v n j < j + n ∧ f (fstAt f v n j) = v ∧ ∀ i, j ≤ i → i < fstAt f v n j → f i ≠ v)
  | 0, j, _ => Or.inl ⟨rfl, fun i h1 h2 => by omega⟩
  | n + 1, j, hj => by
    unfold fstAt
    by_cases h : f j = v
    · rw [if_pos h]
      exact Or.inr ⟨Nat.le_refl _, by omega, h, fun i h1 h2 => by omega⟩
    · rw [if_neg h]
      rcases fstAt_spec (f := f) (v := v) (n := n) (j := j + 1) (by omega) with ⟨h1, h2⟩ | ⟨h1, h2, h3, h4⟩
      · refine Or.inl ⟨h1, fun i a1 a2 => ?_⟩
        by_cases e : i = j
        · rw [e]; exact h
        · exact h2 i (by omega) (by omega)
      · refine Or.inr ⟨by omega, by omega, h3, fun i a1 a2 => ?_⟩
        by_cases e : i = j
        · rw [e]; exact h
        · exact h4 i (by omega) a2
/-- the tempo that counts, of own tempos t from 1 on -/
def cTempo (t : Nat → Int) : Nat → Int
  | 0 => 1000
  | n + 1 => if t (n + 1) = 0 then cTempo t n else t (n + 1)
theorem cTempo_congr {f g : Nat → Int} : ∀ {n : Nat}, (∀ i, 1 ≤ i → i ≤ n → f i = g i) → cTempo f n = cTempo g n
  | 0, _ => rfl
  | n + 1, h => by
    unfold cTempo
    rw [h (n + 1) (by omega) (by omega), cTempo_congr (n := n) (fun i h1 h2 => h i h1 (by omega))]
theorem cTempo_in {t : Nat → Int} : ∀ {n : Nat}, (∀ i, 1 ≤ i → i ≤ n → t i = 0 ∨ (200 ≤ t i ∧ t i ≤ 2500)) → 200 ≤ cTempo t n ∧ cTempo t n ≤ 2500
  | 0, _ => by simp [cTempo]
  | n + 1, h => by
    unfold cTempo
    by_cases e : t (n + 1) = 0
    · rw [if_pos e]
      exact cTempo_in (fun i h1 h2 => h i h1 (by omega))
    · rw [if_neg e]
      exact (h (n + 1) (by omega) (by omega)).resolve_left e
/-- f 0 + .. + f (n - 1) -/
def sumF (f : Nat → Int) : Nat → Int
  | 0 => 0
  | n + 1 => sumF f n + f n
theorem sumF_congr {f g : Nat → Int} : ∀ {n : Nat}, (∀ i, i < n → f i = g i) → sumF f n = sumF g n
  | 0, _ => rfl
  | n + 1, h => by
    unfold sumF
    rw [sumF_congr (n := n) (fun i hi => h i (by omega)), h n (by omega)]
theorem sumF_in {f : Nat → Int} {lo hi : Int} : ∀ {n : Nat}, (∀ i, i < n → lo ≤ f i ∧ f i ≤ hi) → n * lo ≤ sumF f n ∧ sumF f n ≤ n * hi
  | 0, _ => by simp [sumF]
  | n + 1, h => by
    unfold sumF
    have h1 := sumF_in (f := f) (lo := lo) (hi := hi) (n := n) (fun i hi => h i (by omega))
    have h2 := h n (by omega)
    have e1 : ((n + 1 : Nat) : Int) * lo = n * lo + lo := by rw [Int.natCast_add, Int.add_mul]; simp
    have e2 : ((n + 1 : Nat) : Int) * hi = n * hi + hi := by rw [Int.natCast_add, Int.add_mul]; simp
    omega
theorem sumF_add {f g : Nat → Int} : ∀ {n : Nat}, sumF (fun i => f i + g i) n = sumF f n + sumF g n
  | 0 => rfl
  | n + 1 => by
    unfold sumF
    rw [sumF_add]
    omega
/-- 1 for what is not 0 -/
def nz (x : Int) : Int := if x = 0 then 0 else 1
theorem nz_in (x : Int) : 0 ≤ nz x ∧ nz x ≤ 1 := by unfold nz; split <;> omega
/-- durations added in ascending order -/
def durF (d : Nat → UInt32) (s : Nat) : Nat → UInt32
  | 0 => FP.fconst0
  | n + 1 => FP.fadd (durF d s n) (d (s + n))
theorem durF_congr {d g : Nat → UInt32} {s : Nat} : ∀ {n : Nat}, (∀ i, s ≤ i → i < s + n → d i = g i) → durF d s n = durF g s n
  | 0, _ => rfl
  | n + 1, h => by
    unfold durF
    rw [durF_congr (n := n) (fun i h1 h2 => h i h1 (by omega)), h (s + n) (by omega) (by omega)]
/-- a bar's duration: beats, tempo in tenths -/
def barD (beats tenths : Int) : UInt32 := FP.fdiv (FP.fmul (FP.i2f (Int32.ofInt beats)) 1114636288) (FP.fdiv (FP.i2f (Int32.ofInt tenths)) 1092616192)
/-! memory changes read at a place -/
theorem o_cp_ne {σ : oM} {a0 sp a dp n x : Nat} (h : x ≠ a) : o_cp σ a0 sp a dp n x = σ x := funext fun j => by simp [o_cp, h]
theorem o_cp_in {σ : oM} {a0 sp a dp n j : Nat} (h1 : dp ≤ j) (h2 : j < dp + n) : o_cp σ a0 sp a dp n a j = σ a0 (sp + (j - dp)) := by simp [o_cp, h1, h2]
theorem o_cp_out {σ : oM} {a0 sp a dp n j : Nat} (h : j < dp ∨ dp + n ≤ j) : o_cp σ a0 sp a dp n a j = σ a j := by
  unfold o_cp
  rw [if_neg (by omega)]
/-- the rows of S moved, each within itself -/
def o_mv (σ : oM) (S : Nat → Bool) (sp dp n : Nat) : oM := fun x j => if S x = true ∧ dp ≤ j ∧ j < dp + n then σ x (sp + (j - dp)) else σ x j
theorem o_mv_0 {σ : oM} {sp dp n : Nat} : o_mv σ (fun _ => false) sp dp n = σ := by
  funext x j
  simp [o_mv]
theorem o_mv_add {σ : oM} {S : Nat → Bool} {sp dp n r : Nat} (h : S r = false) : o_cp (o_mv σ S sp dp n) r sp r dp n = o_mv σ (fun x => S x || x == r) sp dp n := by
  funext x j
  unfold o_cp
  by_cases hx : x = r
  · subst hx
    by_cases hj : dp ≤ j ∧ j < dp + n
    · rw [if_pos ⟨rfl, hj⟩]
      simp [o_mv, h, hj]
    · rw [if_neg (fun q => hj q.2)]
      simp [o_mv, h, hj]
  · rw [if_neg (fun q => hx q.1)]
    simp [o_mv, hx]
theorem o_mv_ne {σ : oM} {S : Nat → Bool} {sp dp n x : Nat} (h : S x = false) : o_mv σ S sp dp n x = σ x := funext fun j => by simp [o_mv, h]
theorem o_mv_in {σ : oM} {S : Nat → Bool} {sp dp n x j : Nat} (h : S x = true) (h1 : dp ≤ j) (h2 : j < dp + n) : o_mv σ S sp dp n x j = σ x (sp + (j - dp)) := by simp [o_mv, h, h1, h2]
theorem o_mv_out {σ : oM} {S : Nat → Bool} {sp dp n x j : Nat} (h : j < dp ∨ dp + n ≤ j) : o_mv σ S sp dp n x j = σ x j := by
  unfold o_mv
  rw [if_neg (by omega)]
/-- the rows of S copied from those as far from a as they are from e -/
def o_bl (σ : oM) (S : Nat → Bool) (e a dp n : Nat) : oM := fun x j => if S x = true ∧ dp ≤ j ∧ j < dp + n then σ (x - e + a) j else σ x j
theorem o_bl_0 {σ : oM} {e a dp n : Nat} : o_bl σ (fun _ => false) e a dp n = σ := by
  funext x j
  simp [o_bl]
theorem o_bl_add {σ : oM} {S : Nat → Bool} {e a dp n k : Nat} (h : S (a + k) = false) : o_cp (o_bl σ S e a dp n) (a + k) dp (e + k) dp n = o_bl σ (fun x => S x || x == e + k) e a dp n := by
  funext x j
  unfold o_cp
  by_cases hx : x = e + k
  · subst hx
    by_cases hj : dp ≤ j ∧ j < dp + n
    · rw [if_pos ⟨rfl, hj⟩]
      have e1 : dp + (j - dp) = j := by omega
      have e2 : e + k - e + a = a + k := by omega
      rw [e1]
      have e3 : o_bl σ S e a dp n (a + k) j = σ (a + k) j := by simp [o_bl, h]
      have e4 : o_bl σ (fun x => S x || x == e + k) e a dp n (e + k) j = σ (e + k - e + a) j := by simp [o_bl, hj]
      rw [e3, e4, e2]
    · rw [if_neg (fun q => hj q.2)]
      simp [o_bl, hj]
  · rw [if_neg (fun q => hx q.1)]
    simp [o_bl, hx]
theorem o_bl_ne {σ : oM} {S : Nat → Bool} {e a dp n x : Nat} (h : S x = false) : o_bl σ S e a dp n x = σ x := funext fun j => by simp [o_bl, h]
theorem o_bl_in {σ : oM} {S : Nat → Bool} {e a dp n x j : Nat} (h : S x = true) (h1 : dp ≤ j) (h2 : j < dp + n) : o_bl σ S e a dp n x j = σ (x - e + a) j := by simp [o_bl, h, h1, h2]
/-- the eight rows of an edition's bars -/
def rowS (e : Nat) : Nat → Bool := fun x => (((((((false || x == e + 1) || x == e + 2) || x == e + 3) || x == e + 4) || x == e + 6 + 0) || x == e + 6 + 1) || x == e + 6 + 2) || x == e + 6 + 3
theorem rowS_t {e x : Nat} (h : (e + 1 ≤ x ∧ x ≤ e + 4) ∨ (e + 6 ≤ x ∧ x ≤ e + 9)) : rowS e x = true := by
  simp only [rowS, Bool.or_eq_true, beq_iff_eq, Bool.false_eq_true, false_or]
  omega
theorem rowS_f {e x : Nat} (h : x ≤ e ∨ x = e + 5 ∨ e + 10 ≤ x) : rowS e x = false := by
  simp only [rowS, Bool.or_eq_false_iff, beq_eq_false_iff_ne, ne_eq, true_and]
  omega
/-! shapes -/
def oEd (T : oT) (e : Nat) : Prop := T.2.1 e = (4, 0) ∧ T.2.2 e 3 = some (e + 1) ∧ T.2.2 e 4 = some (e + 2) ∧ T.2.2 e 5 = some (e + 3) ∧ T.2.2 e 6 = some (e + 4) ∧ T.2.2 e 7 = some (e + 5) ∧ T.2.2 e 8 = some (e + 10) ∧ T.2.2 e 9 = some (e + 11) ∧ T.2.2 e 10 = some (e + 12) ∧
  T.2.1 (e + 1) = (10, 100) ∧ T.2.1 (e + 2) = (10, 100) ∧ T.2.1 (e + 3) = (10, 100) ∧ T.2.1 (e + 4) = (10, 100) ∧ T.2.1 (e + 5) = (16, 4) ∧ (∀ i, i < 4 → T.2.2 (e + 5) i = some (e + 6 + i) ∧ T.2.1 (e + 6 + i) = (10, 100)) ∧ T.2.1 (e + 10) = (10, 6) ∧ T.2.1 (e + 11) = (10, 6) ∧ T.2.1 (e + 12) = (10, 6) ∧ e + 13 ≤ T.1
def oLn (T : oT) (a : Nat) : Prop := T.2.1 a = (7, 0) ∧ a + 1 ≤ T.1
def oHd (T : oT) (h : Nat) : Prop := T.2.1 h = (6, 0) ∧ T.2.2 h 1 = some (h + 1) ∧ T.2.2 h 2 = some (h + 80) ∧ T.2.2 h 3 = some (h + 81) ∧ T.2.2 h 4 = some (h + 82) ∧ T.2.2 h 6 = some (h + 83) ∧ T.2.1 (h + 1) = (13, 6) ∧ T.2.1 (h + 80) = (10, 4) ∧ T.2.1 (h + 81) = (10, 4) ∧ T.2.1 (h + 82) = (10, 6) ∧ T.2.1 (h + 83) = (15, 20) ∧
  (∀ i, i < 6 → T.2.2 (h + 1) i = some (h + 2 + 13 * i) ∧ oEd T (h + 2 + 13 * i)) ∧ (∀ i, i < 20 → T.2.2 (h + 83) i = some (h + 84 + i) ∧ T.2.1 (h + 84 + i) = (7, 0)) ∧ h + 104 ≤ T.1
