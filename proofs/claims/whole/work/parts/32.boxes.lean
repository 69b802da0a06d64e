/-! boxes: sorts, numbers of places, things (an edition + 1, or 0), parts, as rows by box and place -/
abbrev oBoxes : Type := (Nat → Int) × (Nat → Int) × (Nat → Int) × (Nat → Int)
def oB1 (σ : oM) (aC ix : Nat) (bx : oBoxes) : Prop := (σ aC 0 = bx.1 ix ∧ 0 ≤ bx.1 ix ∧ bx.1 ix ≤ 3) ∧ (σ aC 1 = bx.2.1 ix ∧ 0 ≤ bx.2.1 ix ∧ bx.2.1 ix ≤ 8) ∧
  ∀ px : Nat, px < 8 → (σ (aC + 2) px = bx.2.2.2 (8 * ix + px) ∧ -1 ≤ bx.2.2.2 (8 * ix + px) ∧ bx.2.2.2 (8 * ix + px) ≤ 5) ∧ (-1 ≤ σ (aC + 1) px ∧ σ (aC + 1) px ≤ 5) ∧ (0 ≤ bx.2.2.1 (8 * ix + px) ∧ bx.2.2.1 (8 * ix + px) ≤ 6) ∧ ((px : Int) < bx.2.1 ix → σ (aC + 1) px = bx.2.2.1 (8 * ix + px) - 1)
def oBR (σ : oM) (xC : Nat) (bx : oBoxes) : Prop := ∀ ix, ix < 3 → oB1 σ (xC + 1154 + 3 * ix) ix bx
theorem oB1_fr {σ σ2 : oM} {aC ix : Nat} {bx b2 : oBoxes} (h : oB1 σ aC ix bx) (hs : ∀ x, aC ≤ x → x < aC + 3 → σ2 x = σ x) (h0 : b2.1 ix = bx.1 ix) (h1 : b2.2.1 ix = bx.2.1 ix) (h2 : ∀ px, px < 8 → b2.2.2.1 (8 * ix + px) = bx.2.2.1 (8 * ix + px) ∧ b2.2.2.2 (8 * ix + px) = bx.2.2.2 (8 * ix + px)) : oB1 σ2 aC ix b2 := by
  obtain ⟨g0, g1, g2⟩ := h
  refine ⟨?_, ?_, fun px hp => ?_⟩
  · rw [hs _ (by omega) (by omega), h0]
    exact g0
  · rw [hs _ (by omega) (by omega), h1]
    exact g1
  · rw [hs _ (by omega) (by omega), hs _ (by omega) (by omega), (h2 px hp).1, (h2 px hp).2, h1]
    exact g2 px hp
theorem oBR_fr {σ σ2 : oM} {xC : Nat} {bx : oBoxes} (h : oBR σ xC bx) (hs : ∀ x, xC + 1154 ≤ x → x < xC + 1163 → σ2 x = σ x) : oBR σ2 xC bx := fun ix hi => oB1_fr (h ix hi) (fun x h1 h2 => hs x (by omega) (by omega)) rfl rfl (fun _ _ => ⟨rfl, rfl⟩)
def thingsF (bx : oBoxes) (zN : Nat) : Int := sumF (fun px => if 0 < bx.2.2.1 (8 * zN + px) then 1 else 0) (bx.2.1 zN).toNat
theorem thingsF_r (bx : oBoxes) (zN : Nat) (h : bx.2.1 zN ≤ 8) : o_r (thingsF bx zN) := by
  have h1 := sumF_in (f := fun px => if 0 < bx.2.2.1 (8 * zN + px) then 1 else 0) (lo := 0) (hi := 1) (n := (bx.2.1 zN).toNat) (fun i _ => by
    try simp only
    split <;> omega)
  unfold thingsF
  omega
theorem thingsF_of {σ : oM} {aC zN pN : Nat} {bx : oBoxes} (h : oB1 σ aC zN bx) (hp : bx.2.1 zN = (pN : Int)) : sumF (fun jx => if σ (aC + 1) jx = -1 then 0 else 1) pN = thingsF bx zN := by
  unfold thingsF
  rw [hp, Int.toNat_natCast]
  obtain ⟨g0, g1, g2⟩ := h
  refine sumF_congr (fun i hi => ?_)
  obtain ⟨q1, q2, q3, q4⟩ := g2 i (by omega)
  have q5 := q4 (by omega)
  try simp only
  by_cases hc : σ (aC + 1) i = -1
  · rw [if_pos hc, if_neg (by omega)]
  · rw [if_neg hc, if_pos (by omega)]
def clrF (f : Nat → Int) (fx n : Nat) : Nat → Int := fun x => if fx ≤ x ∧ x < fx + n then 0 else f x
def boxF (bx : oBoxes) (zN : Nat) (v w : Int) : oBoxes := (updF bx.1 zN v, updF bx.2.1 zN w, clrF bx.2.2.1 (8 * zN) 8, bx.2.2.2)
def fBox (bx : oBoxes) (z v w : Int) : Int × oBoxes := if 0 ≤ z ∧ z ≤ 2 then (if (0 ≤ v ∧ v ≤ 3) ∧ (0 ≤ w ∧ w ≤ 8) then (thingsF bx z.toNat, boxF bx z.toNat v w) else (-2, bx)) else (-1, bx)
theorem o_emp_ne {σ : oM} {aC n x : Nat} (h : x ≠ aC + 1) : o_emp σ aC n x = σ x := by
  funext j
  unfold o_emp
  rw [if_neg (fun hc => h hc.1)]
theorem o_emp_at {σ : oM} {aC n j : Nat} (h : j < n) : o_emp σ aC n (aC + 1) j = -1 := by
  unfold o_emp
  rw [if_pos ⟨rfl, h⟩]
theorem oBR_box {σ : oM} {xC zN : Nat} {bx : oBoxes} {v w : Int} (h : oBR σ xC bx) (hz : zN < 3) (hv : 0 ≤ v ∧ v ≤ 3) (hw : 0 ≤ w ∧ w ≤ 8) : oBR (o_emp (o_up (o_up σ (xC + 1154 + 3 * zN) 0 v) (xC + 1154 + 3 * zN) 1 w) (xC + 1154 + 3 * zN) 8) xC (boxF bx zN v w) := fun ix hi => by
  by_cases hc : ix = zN
  · subst hc
    obtain ⟨g0, g1, g2⟩ := h ix hi
    refine ⟨?_, ?_, fun px hp => ?_⟩
    · rw [o_emp_ne (by omega), o_up_nj (Or.inr (by decide)), o_up_at]
      show v = updF _ ix v ix ∧ 0 ≤ updF _ ix v ix ∧ updF _ ix v ix ≤ 3
      rw [updF_at]
      exact ⟨rfl, hv⟩
    · rw [o_emp_ne (by omega), o_up_at]
      show w = updF _ ix w ix ∧ 0 ≤ updF _ ix w ix ∧ updF _ ix w ix ≤ 8
      rw [updF_at]
      exact ⟨rfl, hw⟩
    · obtain ⟨q1, q2, q3, q4⟩ := g2 px hp
      rw [o_emp_ne (by omega), o_up_ne (by omega), o_up_ne (by omega), o_emp_at hp]
      have e1 : (boxF bx ix v w).2.2.1 (8 * ix + px) = 0 := by
        show clrF _ _ _ _ = 0
        unfold clrF
        rw [if_pos (by omega)]
      rw [e1]
      exact ⟨q1, by omega, by omega, fun _ => rfl⟩
  · refine oB1_fr (h ix hi) (fun x h1 h2 => ?_) ?_ ?_ (fun px hp => ⟨?_, rfl⟩)
    · rw [o_emp_ne (by omega), o_up_ne (by omega), o_up_ne (by omega)]
    · exact updF_ne hc
    · exact updF_ne hc
    · show clrF _ _ _ _ = _
      unfold clrF
      rw [if_neg (by omega)]
abbrev isPlG (bx : oBoxes) (z v : Int) : Prop := (0 ≤ z ∧ z ≤ 2) ∧ 0 ≤ v ∧ v ≤ bx.2.1 z.toNat - 1
abbrev noTkG (so u : Int) : Prop := (so = 1 ∧ 0 ≤ u) ∨ (so = 2 ∧ u < 0) ∨ (so = 3 ∧ ¬ (0 ≤ u ∧ u ≤ 3))
theorem noTk_of {so u : Int} (h1 : -1 ≤ u) : takesF so u ↔ ¬ noTkG so u := by
  unfold takesF noTkG
  by_cases c1 : so = 1
  · rw [if_pos c1]
    omega
  · rw [if_neg c1]
    by_cases c2 : so = 2
    · rw [if_pos c2]
      omega
    · rw [if_neg c2]
      by_cases c3 : so = 3
      · rw [if_pos c3]
        omega
      · rw [if_neg c3]
        exact ⟨fun _ => by omega, fun _ => trivial⟩
def putF (bx : oBoxes) (kN : Nat) (w u : Int) : oBoxes := (bx.1, bx.2.1, updF bx.2.2.1 kN (w + 1), updF bx.2.2.2 kN u)
def fPut (A : Nat → Int) (bx : oBoxes) (z v w u : Int) : Int × oBoxes := if isPlG bx z v ∧ isEdF A w ∧ (-1 ≤ u ∧ u ≤ 5) then (if noTkG (bx.1 z.toNat) u then (-6, bx) else ((if bx.2.2.1 (8 * z.toNat + v.toNat) = 0 then 1 else 0), putF bx (8 * z.toNat + v.toNat) w u)) else (-1, bx)
theorem oBR_put {σ σ2 : oM} {xC zN vN : Nat} {bx : oBoxes} {w u : Int} (h : oBR σ xC bx) (hz : zN < 3) (hv : vN < 8) (hw : 0 ≤ w ∧ w ≤ 5) (hu : -1 ≤ u ∧ u ≤ 5) (h2 : σ2 = o_up (o_up σ (xC + 1154 + 3 * zN + 1) vN w) (xC + 1154 + 3 * zN + 2) vN u) : oBR σ2 xC (putF bx (8 * zN + vN) w u) := fun ix hi => by
  by_cases hc : ix = zN
  · subst hc
    obtain ⟨g0, g1, g2⟩ := h ix hi
    refine ⟨?_, ?_, fun px hp => ?_⟩
    · rw [h2, o_up_ne (by omega), o_up_ne (by omega)]
      exact g0
    · rw [h2, o_up_ne (by omega), o_up_ne (by omega)]
      exact g1
    · obtain ⟨q1, q2, q3, q4⟩ := g2 px hp
      show (_ = updF _ _ _ _ ∧ -1 ≤ updF _ _ _ _ ∧ updF _ _ _ _ ≤ 5) ∧ _ ∧ (0 ≤ updF bx.2.2.1 _ _ _ ∧ updF bx.2.2.1 _ _ _ ≤ 6) ∧ ((px : Int) < bx.2.1 ix → _ = updF bx.2.2.1 _ _ _ - 1)
      by_cases hp2 : px = vN
      · subst hp2
        rw [updF_at, updF_at, h2, o_up_at, o_up_ne (by omega), o_up_at]
        exact ⟨⟨rfl, hu⟩, by omega, by omega, fun _ => by omega⟩
      · rw [updF_ne (by omega), updF_ne (by omega), h2, o_up_nj (Or.inr hp2), o_up_ne (by omega), o_up_ne (by omega), o_up_nj (Or.inr hp2)]
        exact ⟨q1, q2, q3, q4⟩
  · refine oB1_fr (h ix hi) (fun x h1 h2' => ?_) rfl rfl (fun px hp => ⟨?_, ?_⟩)
    · rw [h2, o_up_ne (by omega), o_up_ne (by omega)]
    · exact updF_ne (by omega)
    · exact updF_ne (by omega)
def fLook (bx : oBoxes) (z v w : Int) : Int := if isPlG bx z v ∧ (0 ≤ w ∧ w ≤ 1) then (if bx.2.2.1 (8 * z.toNat + v.toNat) = 0 then -7 else if w = 0 then bx.2.2.1 (8 * z.toNat + v.toNat) - 1 else bx.2.2.2 (8 * z.toNat + v.toNat)) else -1
def movF (f : Nat → Int) (dp sp n : Nat) : Nat → Int := fun x => if dp ≤ x ∧ x < dp + n then f (x - dp + sp) else f x
def likeF (bx : oBoxes) (zN vN : Nat) : oBoxes := (updF bx.1 vN (bx.1 zN), updF bx.2.1 vN (bx.2.1 zN), movF bx.2.2.1 (8 * vN) (8 * zN) 8, movF bx.2.2.2 (8 * vN) (8 * zN) 8)
def fLike (bx : oBoxes) (z v : Int) : Int × oBoxes := if (0 ≤ z ∧ z ≤ 2) ∧ (0 ≤ v ∧ v ≤ 2) then (thingsF (likeF bx z.toNat v.toNat) v.toNat, likeF bx z.toNat v.toNat) else (-1, bx)
theorem oBR_like {σ σ2 : oM} {xC zN vN : Nat} {bx : oBoxes} (h : oBR σ xC bx) (hz : zN < 3) (hv : vN < 3) (h2 : σ2 = o_cp (o_cp (o_up (o_up σ (xC + 1154 + 3 * vN) 0 (σ (xC + 1154 + 3 * zN) 0)) (xC + 1154 + 3 * vN) 1 (σ (xC + 1154 + 3 * zN) 1)) (xC + 1154 + 3 * zN + 1) 0 (xC + 1154 + 3 * vN + 1) 0 8) (xC + 1154 + 3 * zN + 2) 0 (xC + 1154 + 3 * vN + 2) 0 8) : oBR σ2 xC (likeF bx zN vN) := fun ix hi => by
  by_cases hc : ix = vN
  · subst hc
    obtain ⟨g0, g1, g2⟩ := h zN hz
    refine ⟨?_, ?_, fun px hp => ?_⟩
    · rw [h2, o_cp_ne (by omega), o_cp_ne (by omega), o_up_nj (Or.inr (by decide)), o_up_at]
      show _ = updF _ ix _ ix ∧ 0 ≤ updF _ ix _ ix ∧ updF _ ix _ ix ≤ 3
      rw [updF_at]
      exact g0
    · rw [h2, o_cp_ne (by omega), o_cp_ne (by omega), o_up_at]
      show _ = updF _ ix _ ix ∧ 0 ≤ updF _ ix _ ix ∧ updF _ ix _ ix ≤ 8
      rw [updF_at]
      exact g1
    · have q := g2 px hp
      have e1 : σ2 (xC + 1154 + 3 * ix + 2) px = σ (xC + 1154 + 3 * zN + 2) px := by rw [h2, o_cp_in (by omega) (by omega), o_cp_ne (by omega), o_up_ne (by omega), o_up_ne (by omega), show 0 + (px - 0) = px by omega]
      have e2 : σ2 (xC + 1154 + 3 * ix + 1) px = σ (xC + 1154 + 3 * zN + 1) px := by rw [h2, o_cp_ne (by omega), o_cp_in (by omega) (by omega), o_up_ne (by omega), o_up_ne (by omega), show 0 + (px - 0) = px by omega]
      have e3 : ∀ f : Nat → Int, movF f (8 * ix) (8 * zN) 8 (8 * ix + px) = f (8 * zN + px) := fun f => by
        unfold movF
        rw [if_pos (by omega)]
        congr 1
        omega
      show (_ = movF _ _ _ _ _ ∧ -1 ≤ movF _ _ _ _ _ ∧ movF _ _ _ _ _ ≤ 5) ∧ _ ∧ (0 ≤ movF bx.2.2.1 _ _ _ _ ∧ movF bx.2.2.1 _ _ _ _ ≤ 6) ∧ ((px : Int) < updF _ ix _ ix → _ = movF bx.2.2.1 _ _ _ _ - 1)
      rw [e1, e2, e3, e3, updF_at]
      exact q
  · refine oB1_fr (h ix hi) (fun x h1 h2' => ?_) (updF_ne hc) (updF_ne hc) (fun px hp => ⟨?_, ?_⟩)
    · rw [h2, o_cp_ne (by omega), o_cp_ne (by omega), o_up_ne (by omega), o_up_ne (by omega)]
    · show movF _ _ _ _ _ = _
      unfold movF
      rw [if_neg (by omega)]
    · show movF _ _ _ _ _ = _
      unfold movF
      rw [if_neg (by omega)]
set_option maxRecDepth 20000 in
set_option maxHeartbeats 8000000 in
theorem c_X8_isPlace {T : oT} {σ : oM} {xC : Nat} {bx : oBoxes} (hX : oX T xC) (hB : oBR σ xC bx) {z v : Int} (hz : o_r z) (hv : o_r v) : MS yX8_isPlace cX8_isPlace 3 (some FieldType.boolean) 2 0 0 42 [og xC, oi z, oi v] T σ (oPb (isPlG bx z v) T σ) := by
  have hXc := hX
  obtain ⟨hX0, hXr0, hXr1, hXr2, hXr3, hXr4, hXr5, hXr6, hXn, hXs, hXy, hXq, hXk, hXb, hXbs, hXi, hXT⟩ := hXc
  refine o_met (by decide +kernel) (Nat.le_of_ble_eq_true rfl) (fun p l ee s m args below meth c G b C hr hn => ?_)
  have C : oCx p s m args meth c G b RX8 cX8_isPlace 3 := C
  show oW p l ee ({ frames := 2, cells := 0, slots := 0, locals := 42 } : Room) s m args below meth c G b 3 0 0 (MQ below (o_Qc G b (oPb (isPlG bx z v) T σ)) args s 0 0 (fun q => b ≤ q)) T σ 0 [some (og xC), some (oi z), some (oi v)] []
  refine r_il1 (q := 1) C dX8_isPlace_0 rfl ?_
  refine r_callSb (q := 4) C (c_X8_isBox (by omega)) m_X8_353 dX8_isPlace_1 rfl rfl (by decide) (by decide) (Nat.le_of_ble_eq_true rfl) (fun br1 => ?_) (fun br1 => ?_)
  · refine r_ifeq_f (q := 30) (q2 := 7) C (by decide) (by omega) dX8_isPlace_4 (by decide) rfl ?_
    obtain ⟨zN, rfl⟩ : ∃ zN : Nat, z = (zN : Int) := ⟨z.toNat, by omega⟩
    have hBj := (hXbs zN (by omega)).1
    have hBx := (hXbs zN (by omega)).2
    have hB1 := hB zN (by omega)
    obtain ⟨b0, b1, b2⟩ := id hB1
    obtain ⟨b00, b01, b02, b03, b04, b05⟩ := id hBx
    refine r_il2 (q := 8) C dX8_isPlace_7 rfl ?_
    refine r_iconst (q := 9) C dX8_isPlace_8 rfl ?_
    refine r_al0 (q := 10) C dX8_isPlace_9 rfl ?_
    refine r_getR (q := 13) C f_X8_42 dX8_isPlace_10 rfl rfl (by assumption) (by assumption) (by omega) ?_
    refine r_il1 (q := 14) C dX8_isPlace_13 rfl ?_
    refine r_aald (q := 15) C (zN) dX8_isPlace_14 rfl (by assumption) (by omega) (by omega) (by omega) (by decide) hBj rfl rfl (by decide) (by decide) ?_
    refine r_getI (q := 18) C f_X8_426 dX8_isPlace_15 rfl rfl (by assumption) (by omega) ?_
    refine r_iconst (q := 19) C dX8_isPlace_18 rfl ?_
    refine r_isub (q := 20) C dX8_isPlace_19 rfl ?_
    rw [b1.1]
    refine r_callSb (q := 23) C (c_X8_within (hi := bx.2.1 zN - 1) hv (by omega) (by omega)) m_X8_68 dX8_isPlace_20 rfl rfl (by decide) (by decide) (Nat.le_of_ble_eq_true rfl) (fun br20 => ?_) (fun br20 => ?_)
    · refine r_ifeq_f (q := 30) (q2 := 26) C (by decide) (by omega) dX8_isPlace_23 (by decide) rfl ?_
      refine r_iconst (q := 27) C dX8_isPlace_26 rfl ?_
      refine r_goto (q := 31) C dX8_isPlace_27 (by decide) ?_
      exact r_zret C hr dX8_isPlace_31 (by decide) (by decide) (by decide) ⟨Or.inl ⟨⟨br1, br20.1, by rw [Int.toNat_natCast]; exact br20.2⟩, rfl⟩, rfl, rfl⟩
    · refine r_ifeq_t (q := 30) C (by decide) (by omega) dX8_isPlace_23 (by decide) ?_
      refine r_iconst (q := 31) C dX8_isPlace_30 rfl ?_
      exact r_zret C hr dX8_isPlace_31 (by decide) (by decide) (by decide) ⟨Or.inr ⟨fun hc => br20 ⟨hc.2.1, by have h := hc.2.2; rw [Int.toNat_natCast] at h; exact h⟩, rfl⟩, rfl, rfl⟩
  · refine r_ifeq_t (q := 30) C (by decide) (by omega) dX8_isPlace_4 (by decide) ?_
    refine r_iconst (q := 31) C dX8_isPlace_30 rfl ?_
    exact r_zret C hr dX8_isPlace_31 (by decide) (by decide) (by decide) ⟨Or.inr ⟨fun hc => br1 hc.1, rfl⟩, rfl, rfl⟩
set_option maxRecDepth 20000 in
set_option maxHeartbeats 8000000 in
theorem c_X8_box {T : oT} {σ : oM} {xC : Nat} {bx : oBoxes} (hX : oX T xC) (hB : oBR σ xC bx) {z v w : Int} (hz : o_r z) (hv : o_r v) (hw : o_r w) : MS yX8_box cX8_box 5 (some FieldType.int) 2 0 0 43 [og xC, oi z, oi v, oi w] T σ (oPs (fun zx σ2 => zx = (fBox bx z v w).1 ∧ oBR σ2 xC (fBox bx z v w).2 ∧ (∀ x, (x < xC + 1153 ∨ xC + 1163 ≤ x) → σ2 x = σ x)) T) := by
  have hXc := hX
  obtain ⟨hX0, hXr0, hXr1, hXr2, hXr3, hXr4, hXr5, hXr6, hXn, hXs, hXy, hXq, hXk, hXb, hXbs, hXi, hXT⟩ := hXc
  refine o_met (by decide +kernel) (Nat.le_of_ble_eq_true rfl) (fun p l ee s m args below meth c G b C hr hn => ?_)
  have C : oCx p s m args meth c G b RX8 cX8_box 5 := C
  show oW p l ee ({ frames := 2, cells := 0, slots := 0, locals := 43 } : Room) s m args below meth c G b 5 0 0 (MQ below (o_Qc G b (oPs (fun zx σ2 => zx = (fBox bx z v w).1 ∧ oBR σ2 xC (fBox bx z v w).2 ∧ (∀ x, (x < xC + 1153 ∨ xC + 1163 ≤ x) → σ2 x = σ x)) T)) args s 0 0 (fun q => b ≤ q)) T σ 0 [some (og xC), some (oi z), some (oi v), some (oi w), none] []
  refine r_il1 (q := 1) C dX8_box_0 rfl ?_
  refine r_callSb (q := 4) C (c_X8_isBox (by omega)) m_X8_353 dX8_box_1 rfl rfl (by decide) (by decide) (Nat.le_of_ble_eq_true rfl) (fun br1 => ?_) (fun br1 => ?_)
  · refine r_ifne_t (q := 9) C (by decide) (by omega) dX8_box_4 (by decide) ?_
    have hs := fBox.eq_1 bx z v w
    rw [if_pos br1] at hs
    refine r_il2 (q := 10) C dX8_box_9 rfl ?_
    refine r_iconst (q := 11) C dX8_box_10 rfl ?_
    refine r_iconst (q := 12) C dX8_box_11 rfl ?_
    refine r_callSb (q := 15) C (c_X8_within hv (by omega) (by omega)) m_X8_68 dX8_box_12 rfl rfl (by decide) (by decide) (Nat.le_of_ble_eq_true rfl) (fun br12 => ?_) (fun br12 => ?_)
    · refine r_ifeq_f (q := 28) (q2 := 18) C (by decide) (by omega) dX8_box_15 (by decide) rfl ?_
      refine r_il3 (q := 19) C dX8_box_18 rfl ?_
      refine r_iconst (q := 20) C dX8_box_19 rfl ?_
      refine r_bipush (q := 22) C dX8_box_20 (by decide) rfl ?_
      refine r_callSb (q := 25) C (c_X8_within hw (by omega) (by omega)) m_X8_68 dX8_box_22 rfl rfl (by decide) (by decide) (Nat.le_of_ble_eq_true rfl) (fun br22 => ?_) (fun br22 => ?_)
      · refine r_ifne_t (q := 31) C (by decide) (by omega) dX8_box_25 (by decide) ?_
        rw [if_pos ⟨br12, br22⟩] at hs
        obtain ⟨zN, rfl⟩ : ∃ zN : Nat, z = (zN : Int) := ⟨z.toNat, by omega⟩
        have hBj := (hXbs zN (by omega)).1
        have hBx := (hXbs zN (by omega)).2
        have hB1 := hB zN (by omega)
        obtain ⟨b0, b1, b2⟩ := id hB1
        obtain ⟨b00, b01, b02, b03, b04, b05⟩ := id hBx
        rw [Int.toNat_natCast] at hs
        obtain ⟨pN, hpN⟩ : ∃ pN : Nat, bx.2.1 zN = (pN : Int) := ⟨(bx.2.1 zN).toNat, by omega⟩
        have hth := thingsF_of hB1 hpN
        have hpr : ∀ jx, jx < 8 → o_r (σ (xC + 1154 + 3 * zN + 1) jx) := fun jx hj => by have := (b2 jx hj).2.1; omega
        refine r_al0 (q := 32) C dX8_box_31 rfl ?_
        refine r_getR (q := 35) C f_X8_42 dX8_box_32 rfl rfl (by assumption) (by assumption) (by omega) ?_
        refine r_il1 (q := 36) C dX8_box_35 rfl ?_
        refine r_aald (q := 37) C (zN) dX8_box_36 rfl (by assumption) (by omega) (by omega) (by omega) (by decide) hBj rfl rfl (by decide) (by decide) ?_
        refine r_callV1 (q := 40) C (c_X1_things (Nn := pN) hBx (by rw [b1.1, hpN]) (by omega) hpr) m_X8_356 (by assumption) (by omega) dX8_box_37 rfl rfl (by decide) (by decide) (Nat.le_of_ble_eq_true rfl) ?_
        rw [hth]
        refine r_is4 (q := 42) C dX8_box_40 rfl (by decide) ?_
        refine r_al0 (q := 43) C dX8_box_42 rfl ?_
        refine r_getR (q := 46) C f_X8_42 dX8_box_43 rfl rfl (by assumption) (by assumption) (by omega) ?_
        refine r_il1 (q := 47) C dX8_box_46 rfl ?_
        refine r_aald (q := 48) C (zN) dX8_box_47 rfl (by assumption) (by omega) (by omega) (by omega) (by decide) hBj rfl rfl (by decide) (by decide) ?_
        refine r_il2 (q := 49) C dX8_box_48 rfl ?_
        refine r_il3 (q := 50) C dX8_box_49 rfl ?_
        refine r_callVv (q := 53) C (c_X1_makeAnew hBx) m_X8_359 (by assumption) (by omega) dX8_box_50 rfl rfl (by decide) (by decide) (Nat.le_of_ble_eq_true rfl) (fun σ2 hσ2 => ?_)
        subst hσ2
        refine r_il4 (q := 55) C dX8_box_53 rfl ?_
        exact r_iret C hr dX8_box_55 (by decide) (by decide) ⟨_, rfl, rfl, by rw [hs], by rw [hs]; exact ⟨oBR_box hB (by omega) br12 br22, fun x hx => by rw [o_emp_ne (by omega), o_up_ne (by omega), o_up_ne (by omega)]⟩⟩
      · refine r_ifne_f (q := 31) (q2 := 28) C (by decide) (by omega) dX8_box_25 (by decide) rfl ?_
        refine r_bipush (q := 30) C dX8_box_28 (by decide) rfl ?_
        exact r_iret C hr dX8_box_30 (by decide) (by decide) ⟨_, rfl, rfl, by rw [hs, if_neg (fun hc => br22 hc.2)], by rw [hs, if_neg (fun hc => br22 hc.2)]; exact ⟨hB, fun _ _ => rfl⟩⟩
    · refine r_ifeq_t (q := 28) C (by decide) (by omega) dX8_box_15 (by decide) ?_
      refine r_bipush (q := 30) C dX8_box_28 (by decide) rfl ?_
      exact r_iret C hr dX8_box_30 (by decide) (by decide) ⟨_, rfl, rfl, by rw [hs, if_neg (fun hc => br12 hc.1)], by rw [hs, if_neg (fun hc => br12 hc.1)]; exact ⟨hB, fun _ _ => rfl⟩⟩
  · refine r_ifne_f (q := 9) (q2 := 7) C (by decide) (by omega) dX8_box_4 (by decide) rfl ?_
    refine r_iconst (q := 8) C dX8_box_7 rfl ?_
    exact r_iret C hr dX8_box_8 (by decide) (by decide) ⟨_, rfl, rfl, by rw [fBox, if_neg br1], by rw [fBox, if_neg br1]; exact ⟨hB, fun _ _ => rfl⟩⟩
set_option maxRecDepth 20000 in
set_option maxHeartbeats 8000000 in
theorem c_X8_likeBox {T : oT} {σ : oM} {xC : Nat} {bx : oBoxes} (hX : oX T xC) (hB : oBR σ xC bx) {z v : Int} (hz : o_r z) (hv : o_r v) : MS yX8_likeBox cX8_likeBox 3 (some FieldType.int) 2 0 0 51 [og xC, oi z, oi v] T σ (oPs (fun zx σ2 => zx = (fLike bx z v).1 ∧ oBR σ2 xC (fLike bx z v).2 ∧ (∀ x, (x < xC + 1153 ∨ xC + 1163 ≤ x) → σ2 x = σ x)) T) := by
  have hXc := hX
  obtain ⟨hX0, hXr0, hXr1, hXr2, hXr3, hXr4, hXr5, hXr6, hXn, hXs, hXy, hXq, hXk, hXb, hXbs, hXi, hXT⟩ := hXc
  refine o_met (by decide +kernel) (Nat.le_of_ble_eq_true rfl) (fun p l ee s m args below meth c G b C hr hn => ?_)
  have C : oCx p s m args meth c G b RX8 cX8_likeBox 3 := C
  show oW p l ee ({ frames := 2, cells := 0, slots := 0, locals := 51 } : Room) s m args below meth c G b 3 0 0 (MQ below (o_Qc G b (oPs (fun zx σ2 => zx = (fLike bx z v).1 ∧ oBR σ2 xC (fLike bx z v).2 ∧ (∀ x, (x < xC + 1153 ∨ xC + 1163 ≤ x) → σ2 x = σ x)) T)) args s 0 0 (fun q => b ≤ q)) T σ 0 [some (og xC), some (oi z), some (oi v)] []
  refine r_il1 (q := 1) C dX8_likeBox_0 rfl ?_
  refine r_callSb (q := 4) C (c_X8_isBox (by omega)) m_X8_353 dX8_likeBox_1 rfl rfl (by decide) (by decide) (Nat.le_of_ble_eq_true rfl) (fun br1 => ?_) (fun br1 => ?_)
  · refine r_ifeq_f (q := 14) (q2 := 7) C (by decide) (by omega) dX8_likeBox_4 (by decide) rfl ?_
    refine r_il2 (q := 8) C dX8_likeBox_7 rfl ?_
    refine r_callSb (q := 11) C (c_X8_isBox (by omega)) m_X8_353 dX8_likeBox_8 rfl rfl (by decide) (by decide) (Nat.le_of_ble_eq_true rfl) (fun br8 => ?_) (fun br8 => ?_)
    · refine r_ifne_t (q := 16) C (by decide) (by omega) dX8_likeBox_11 (by decide) ?_
      have hs := fLike.eq_1 bx z v
      rw [if_pos ⟨br1, br8⟩] at hs
      obtain ⟨zN, rfl⟩ : ∃ zN : Nat, z = (zN : Int) := ⟨z.toNat, by omega⟩
      have hBj := (hXbs zN (by omega)).1
      have hBx := (hXbs zN (by omega)).2
      have hB1 := hB zN (by omega)
      obtain ⟨b0, b1, b2⟩ := id hB1
      obtain ⟨b00, b01, b02, b03, b04, b05⟩ := id hBx
      obtain ⟨vN, rfl⟩ : ∃ vN : Nat, v = (vN : Int) := ⟨v.toNat, by omega⟩
      have hBjv := (hXbs vN (by omega)).1
      have hBxv := (hXbs vN (by omega)).2
      have hB1v := hB vN (by omega)
      obtain ⟨b0v, b1v, b2v⟩ := id hB1v
      obtain ⟨b00v, b01v, b02v, b03v, b04v, b05v⟩ := id hBxv
      simp only [Int.toNat_natCast] at hs
      refine r_al0 (q := 17) C dX8_likeBox_16 rfl ?_
      refine r_getR (q := 20) C f_X8_42 dX8_likeBox_17 rfl rfl (by assumption) (by assumption) (by omega) ?_
      refine r_il2 (q := 21) C dX8_likeBox_20 rfl ?_
      refine r_aald (q := 22) C (vN) dX8_likeBox_21 rfl (by assumption) (by omega) (by omega) (by omega) (by decide) hBjv rfl rfl (by decide) (by decide) ?_
      refine r_al0 (q := 23) C dX8_likeBox_22 rfl ?_
      refine r_getR (q := 26) C f_X8_42 dX8_likeBox_23 rfl rfl (by assumption) (by assumption) (by omega) ?_
      refine r_il1 (q := 27) C dX8_likeBox_26 rfl ?_
      refine r_aald (q := 28) C (zN) dX8_likeBox_27 rfl (by assumption) (by omega) (by omega) (by omega) (by decide) hBj rfl rfl (by decide) (by decide) ?_
      refine r_callVv (q := 31) C (c_X1_becomeLike hBxv hBx) m_X8_376 (by assumption) (by omega) dX8_likeBox_28 rfl rfl (by decide) (by decide) (Nat.le_of_ble_eq_true rfl) (fun σ2 hσ2 => ?_)
      have hnew := oBR_like (zN := zN) (vN := vN) hB (by omega) (by omega) hσ2
      have hN1 := hnew vN (by omega)
      obtain ⟨n0, n1, n2⟩ := id hN1
      obtain ⟨pN, hpN⟩ : ∃ pN : Nat, (likeF bx zN vN).2.1 vN = (pN : Int) := ⟨((likeF bx zN vN).2.1 vN).toNat, by omega⟩
      have hth := thingsF_of hN1 hpN
      have hpr : ∀ jx, jx < 8 → o_r (σ2 (xC + 1154 + 3 * vN + 1) jx) := fun jx hj => by have := (n2 jx hj).2.1; omega
      refine r_al0 (q := 32) C dX8_likeBox_31 rfl ?_
      refine r_getR (q := 35) C f_X8_42 dX8_likeBox_32 rfl rfl (by assumption) (by assumption) (by omega) ?_
      refine r_il2 (q := 36) C dX8_likeBox_35 rfl ?_
      refine r_aald (q := 37) C (vN) dX8_likeBox_36 rfl (by assumption) (by omega) (by omega) (by omega) (by decide) hBjv rfl rfl (by decide) (by decide) ?_
      refine r_callV1 (q := 40) C (c_X1_things (Nn := pN) hBxv (by rw [n1.1, hpN]) (by omega) hpr) m_X8_356 (by assumption) (by omega) dX8_likeBox_37 rfl rfl (by decide) (by decide) (Nat.le_of_ble_eq_true rfl) ?_
      rw [hth]
      exact r_iret C hr dX8_likeBox_40 (by decide) (by decide) ⟨_, rfl, rfl, by rw [hs], by rw [hs]; exact ⟨hnew, fun x hx => by rw [hσ2, o_cp_ne (by omega), o_cp_ne (by omega), o_up_ne (by omega), o_up_ne (by omega)]⟩⟩
    · refine r_ifne_f (q := 16) (q2 := 14) C (by decide) (by omega) dX8_likeBox_11 (by decide) rfl ?_
      refine r_iconst (q := 15) C dX8_likeBox_14 rfl ?_
      exact r_iret C hr dX8_likeBox_15 (by decide) (by decide) ⟨_, rfl, rfl, by rw [fLike, if_neg (fun hc => br8 hc.2)], by rw [fLike, if_neg (fun hc => br8 hc.2)]; exact ⟨hB, fun _ _ => rfl⟩⟩
  · refine r_ifeq_t (q := 14) C (by decide) (by omega) dX8_likeBox_4 (by decide) ?_
    refine r_iconst (q := 15) C dX8_likeBox_14 rfl ?_
    exact r_iret C hr dX8_likeBox_15 (by decide) (by decide) ⟨_, rfl, rfl, by rw [fLike, if_neg (fun hc => br1 hc.1)], by rw [fLike, if_neg (fun hc => br1 hc.1)]; exact ⟨hB, fun _ _ => rfl⟩⟩
set_option maxRecDepth 20000 in
set_option maxHeartbeats 8000000 in
theorem c_X8_put {T : oT} {σ : oM} {xC : Nat} {A : Nat → Int} {Bd : Int} {bx : oBoxes} (hX : oX T xC) (hR : oHR σ (xC + 1) A) (hI : oI Bd A) (hB : oBR σ xC bx) {z v w u : Int} (hz : o_r z) (hv : o_r v) (hw : o_r w) (hu : o_r u) : MS yX8_put cX8_put 7 (some FieldType.int) 3 0 0 64 [og xC, oi z, oi v, oi w, oi u] T σ (oPs (fun zx σ2 => zx = (fPut A bx z v w u).1 ∧ oBR σ2 xC (fPut A bx z v w u).2 ∧ (∀ x, (x < xC + 1153 ∨ xC + 1163 ≤ x) → σ2 x = σ x)) T) := by
  have hXc := hX
  obtain ⟨hX0, hXr0, hXr1, hXr2, hXr3, hXr4, hXr5, hXr6, hXn, hXs, hXy, hXq, hXk, hXb, hXbs, hXi, hXT⟩ := hXc
  have hI0 := hI.2.1
  refine o_met (by decide +kernel) (Nat.le_of_ble_eq_true rfl) (fun p l ee s m args below meth c G b C hr hn => ?_)
  have C : oCx p s m args meth c G b RX8 cX8_put 7 := C
  show oW p l ee ({ frames := 3, cells := 0, slots := 0, locals := 64 } : Room) s m args below meth c G b 7 0 0 (MQ below (o_Qc G b (oPs (fun zx σ2 => zx = (fPut A bx z v w u).1 ∧ oBR σ2 xC (fPut A bx z v w u).2 ∧ (∀ x, (x < xC + 1153 ∨ xC + 1163 ≤ x) → σ2 x = σ x)) T)) args s 0 0 (fun q => b ≤ q)) T σ 0 [some (og xC), some (oi z), some (oi v), some (oi w), some (oi u), none, none] []
  refine r_al0 (q := 1) C dX8_put_0 rfl ?_
  refine r_il1 (q := 2) C dX8_put_1 rfl ?_
  refine r_il2 (q := 3) C dX8_put_2 rfl ?_
  refine r_callVb (q := 6) C (c_X8_isPlace hX hB (by omega) (by omega)) m_X8_362 (by assumption) (by omega) dX8_put_3 rfl rfl (by decide) (by decide) (Nat.le_of_ble_eq_true rfl) (fun br3 => ?_) (fun br3 => ?_)
  · refine r_ifeq_f (q := 17) (q2 := 9) C (by decide) (by omega) dX8_put_6 (by decide) rfl ?_
    refine r_al0 (q := 10) C dX8_put_9 rfl ?_
    refine r_il3 (q := 11) C dX8_put_10 rfl ?_
    refine r_callVb (q := 14) C (c_X8_isEdition hX hR hI (by omega)) m_X8_87 (by assumption) (by omega) dX8_put_11 rfl rfl (by decide) (by decide) (Nat.le_of_ble_eq_true rfl) (fun br11 => ?_) (fun br11 => ?_)
    · refine r_ifne_t (q := 19) C (by decide) (by omega) dX8_put_14 (by decide) ?_
      refine r_il4 (q := 21) C dX8_put_19 rfl ?_
      refine r_iconst (q := 22) C dX8_put_21 rfl ?_
      refine r_iceq (q := 35) (q2 := 25) C (by omega) (by omega) dX8_put_22 (by decide) rfl (fun br22 => ?_) (fun br22 => ?_)
      · have hs := fPut.eq_1 A bx z v w u
        rw [if_pos ⟨br3, br11, by omega⟩] at hs
        obtain ⟨zN, rfl⟩ : ∃ zN : Nat, z = (zN : Int) := ⟨z.toNat, by have := br3.1; omega⟩
        obtain ⟨vN, rfl⟩ : ∃ vN : Nat, v = (vN : Int) := ⟨v.toNat, by have := br3.2; omega⟩
        have hzN : zN < 3 := by have := br3.1; omega
        have hBj := (hXbs zN hzN).1
        have hBx := (hXbs zN hzN).2
        have hB1 := hB zN hzN
        obtain ⟨b0, b1, b2⟩ := id hB1
        obtain ⟨b00, b01, b02, b03, b04, b05⟩ := id hBx
        have hpv := br3.2
        simp only [Int.toNat_natCast] at hs hpv
        have hvN : vN < 8 := by omega
        obtain ⟨q1, q2, q3, q4⟩ := b2 vN hvN
        have q5 := q4 (by omega)
        refine r_al0 (q := 36) C dX8_put_35 rfl ?_
        refine r_getR (q := 39) C f_X8_42 dX8_put_36 rfl rfl (by assumption) (by assumption) (by omega) ?_
        refine r_il1 (q := 40) C dX8_put_39 rfl ?_
        refine r_aald (q := 41) C (zN) dX8_put_40 rfl (by assumption) (by omega) (by omega) (by omega) (by decide) hBj rfl rfl (by decide) (by decide) ?_
        refine r_as5 (q := 43) C dX8_put_41 rfl (by decide) ?_
        refine r_al5 (q := 45) C dX8_put_43 rfl ?_
        refine r_il4 (q := 47) C dX8_put_45 rfl ?_
        refine r_callVb (q := 50) C (c_X1_takes hBx (by omega) (by omega)) m_X8_365 (by assumption) (by omega) dX8_put_47 rfl rfl (by decide) (by decide) (Nat.le_of_ble_eq_true rfl) (fun br47 => ?_) (fun br47 => ?_)
        · refine r_ifne_t (q := 56) C (by decide) (by omega) dX8_put_50 (by decide) ?_
          rw [b0.1] at br47
          rw [if_neg ((noTk_of (by omega)).mp br47)] at hs
          refine r_al5 (q := 58) C dX8_put_56 rfl ?_
          refine r_il2 (q := 59) C dX8_put_58 rfl ?_
          refine r_callVb (q := 62) C (c_X1_isEmptyAt (ix := vN) hBx hvN (by omega)) m_X8_368 (by assumption) (by omega) dX8_put_59 rfl rfl (by decide) (by decide) (Nat.le_of_ble_eq_true rfl) (fun br59 => ?_) (fun br59 => ?_)
          · refine r_is6 (q := 64) C dX8_put_62 rfl (by decide) ?_
            refine r_al5 (q := 66) C dX8_put_64 rfl ?_
            refine r_getR (q := 69) C f_X8_371 dX8_put_66 rfl rfl (by assumption) (by assumption) (by omega) ?_
            refine r_il2 (q := 70) C dX8_put_69 rfl ?_
            refine r_il3 (q := 71) C dX8_put_70 rfl ?_
            refine r_iast (q := 72) C (vN) dX8_put_71 rfl (by assumption) (by omega) (by omega) (by omega) (by decide) ?_
            refine r_al5 (q := 74) C dX8_put_72 rfl ?_
            refine r_getR (q := 77) C f_X8_373 dX8_put_74 rfl rfl (by assumption) (by assumption) (by omega) ?_
            refine r_il2 (q := 78) C dX8_put_77 rfl ?_
            refine r_il4 (q := 80) C dX8_put_78 rfl ?_
            refine r_iast (q := 81) C (vN) dX8_put_80 rfl (by assumption) (by omega) (by omega) (by omega) (by decide) ?_
            refine r_il6 (q := 83) C dX8_put_81 rfl ?_
            refine r_ifeq_f (q := 90) (q2 := 86) C (by decide) (by omega) dX8_put_83 (by decide) rfl ?_
            refine r_iconst (q := 87) C dX8_put_86 rfl ?_
            refine r_goto (q := 91) C dX8_put_87 (by decide) ?_
            exact r_iret C hr dX8_put_91 (by decide) (by decide) ⟨_, rfl, rfl, by rw [hs, if_pos (by omega)], by rw [hs]; exact ⟨oBR_put hB hzN hvN (by omega) (by omega) rfl, fun x hx => by rw [o_up_ne (by omega), o_up_ne (by omega)]⟩⟩
          · refine r_is6 (q := 64) C dX8_put_62 rfl (by decide) ?_
            refine r_al5 (q := 66) C dX8_put_64 rfl ?_
            refine r_getR (q := 69) C f_X8_371 dX8_put_66 rfl rfl (by assumption) (by assumption) (by omega) ?_
            refine r_il2 (q := 70) C dX8_put_69 rfl ?_
            refine r_il3 (q := 71) C dX8_put_70 rfl ?_
            refine r_iast (q := 72) C (vN) dX8_put_71 rfl (by assumption) (by omega) (by omega) (by omega) (by decide) ?_
            refine r_al5 (q := 74) C dX8_put_72 rfl ?_
            refine r_getR (q := 77) C f_X8_373 dX8_put_74 rfl rfl (by assumption) (by assumption) (by omega) ?_
            refine r_il2 (q := 78) C dX8_put_77 rfl ?_
            refine r_il4 (q := 80) C dX8_put_78 rfl ?_
            refine r_iast (q := 81) C (vN) dX8_put_80 rfl (by assumption) (by omega) (by omega) (by omega) (by decide) ?_
            refine r_il6 (q := 83) C dX8_put_81 rfl ?_
            refine r_ifeq_t (q := 90) C (by decide) (by omega) dX8_put_83 (by decide) ?_
            refine r_iconst (q := 91) C dX8_put_90 rfl ?_
            exact r_iret C hr dX8_put_91 (by decide) (by decide) ⟨_, rfl, rfl, by rw [hs, if_neg (by omega)], by rw [hs]; exact ⟨oBR_put hB hzN hvN (by omega) (by omega) rfl, fun x hx => by rw [o_up_ne (by omega), o_up_ne (by omega)]⟩⟩
        · refine r_ifne_f (q := 56) (q2 := 53) C (by decide) (by omega) dX8_put_50 (by decide) rfl ?_
          rw [b0.1] at br47
          rw [if_pos (Decidable.byContradiction (fun hc => br47 ((noTk_of (by omega)).mpr hc)))] at hs
          refine r_bipush (q := 55) C dX8_put_53 (by decide) rfl ?_
          exact r_iret C hr dX8_put_55 (by decide) (by decide) ⟨_, rfl, rfl, by rw [hs], by rw [hs]; exact ⟨hB, fun _ _ => rfl⟩⟩
      · refine r_il4 (q := 27) C dX8_put_25 rfl ?_
        refine r_callSb (q := 30) C (c_X8_isInstrument (by omega)) m_X8_238 dX8_put_27 rfl rfl (by decide) (by decide) (Nat.le_of_ble_eq_true rfl) (fun br27 => ?_) (fun br27 => ?_)
        · refine r_ifne_t (q := 35) C (by decide) (by omega) dX8_put_30 (by decide) ?_
          have hs := fPut.eq_1 A bx z v w u
          rw [if_pos ⟨br3, br11, by omega⟩] at hs
          obtain ⟨zN, rfl⟩ : ∃ zN : Nat, z = (zN : Int) := ⟨z.toNat, by have := br3.1; omega⟩
          obtain ⟨vN, rfl⟩ : ∃ vN : Nat, v = (vN : Int) := ⟨v.toNat, by have := br3.2; omega⟩
          have hzN : zN < 3 := by have := br3.1; omega
          have hBj := (hXbs zN hzN).1
          have hBx := (hXbs zN hzN).2
          have hB1 := hB zN hzN
          obtain ⟨b0, b1, b2⟩ := id hB1
          obtain ⟨b00, b01, b02, b03, b04, b05⟩ := id hBx
          have hpv := br3.2
          simp only [Int.toNat_natCast] at hs hpv
          have hvN : vN < 8 := by omega
          obtain ⟨q1, q2, q3, q4⟩ := b2 vN hvN
          have q5 := q4 (by omega)
          refine r_al0 (q := 36) C dX8_put_35 rfl ?_
          refine r_getR (q := 39) C f_X8_42 dX8_put_36 rfl rfl (by assumption) (by assumption) (by omega) ?_
          refine r_il1 (q := 40) C dX8_put_39 rfl ?_
          refine r_aald (q := 41) C (zN) dX8_put_40 rfl (by assumption) (by omega) (by omega) (by omega) (by decide) hBj rfl rfl (by decide) (by decide) ?_
          refine r_as5 (q := 43) C dX8_put_41 rfl (by decide) ?_
          refine r_al5 (q := 45) C dX8_put_43 rfl ?_
          refine r_il4 (q := 47) C dX8_put_45 rfl ?_
          refine r_callVb (q := 50) C (c_X1_takes hBx (by omega) (by omega)) m_X8_365 (by assumption) (by omega) dX8_put_47 rfl rfl (by decide) (by decide) (Nat.le_of_ble_eq_true rfl) (fun br47 => ?_) (fun br47 => ?_)
          · refine r_ifne_t (q := 56) C (by decide) (by omega) dX8_put_50 (by decide) ?_
            rw [b0.1] at br47
            rw [if_neg ((noTk_of (by omega)).mp br47)] at hs
            refine r_al5 (q := 58) C dX8_put_56 rfl ?_
            refine r_il2 (q := 59) C dX8_put_58 rfl ?_
            refine r_callVb (q := 62) C (c_X1_isEmptyAt (ix := vN) hBx hvN (by omega)) m_X8_368 (by assumption) (by omega) dX8_put_59 rfl rfl (by decide) (by decide) (Nat.le_of_ble_eq_true rfl) (fun br59 => ?_) (fun br59 => ?_)
            · refine r_is6 (q := 64) C dX8_put_62 rfl (by decide) ?_
              refine r_al5 (q := 66) C dX8_put_64 rfl ?_
              refine r_getR (q := 69) C f_X8_371 dX8_put_66 rfl rfl (by assumption) (by assumption) (by omega) ?_
              refine r_il2 (q := 70) C dX8_put_69 rfl ?_
              refine r_il3 (q := 71) C dX8_put_70 rfl ?_
              refine r_iast (q := 72) C (vN) dX8_put_71 rfl (by assumption) (by omega) (by omega) (by omega) (by decide) ?_
              refine r_al5 (q := 74) C dX8_put_72 rfl ?_
              refine r_getR (q := 77) C f_X8_373 dX8_put_74 rfl rfl (by assumption) (by assumption) (by omega) ?_
              refine r_il2 (q := 78) C dX8_put_77 rfl ?_
              refine r_il4 (q := 80) C dX8_put_78 rfl ?_
              refine r_iast (q := 81) C (vN) dX8_put_80 rfl (by assumption) (by omega) (by omega) (by omega) (by decide) ?_
              refine r_il6 (q := 83) C dX8_put_81 rfl ?_
              refine r_ifeq_f (q := 90) (q2 := 86) C (by decide) (by omega) dX8_put_83 (by decide) rfl ?_
              refine r_iconst (q := 87) C dX8_put_86 rfl ?_
              refine r_goto (q := 91) C dX8_put_87 (by decide) ?_
              exact r_iret C hr dX8_put_91 (by decide) (by decide) ⟨_, rfl, rfl, by rw [hs, if_pos (by omega)], by rw [hs]; exact ⟨oBR_put hB hzN hvN (by omega) (by omega) rfl, fun x hx => by rw [o_up_ne (by omega), o_up_ne (by omega)]⟩⟩
            · refine r_is6 (q := 64) C dX8_put_62 rfl (by decide) ?_
              refine r_al5 (q := 66) C dX8_put_64 rfl ?_
              refine r_getR (q := 69) C f_X8_371 dX8_put_66 rfl rfl (by assumption) (by assumption) (by omega) ?_
              refine r_il2 (q := 70) C dX8_put_69 rfl ?_
              refine r_il3 (q := 71) C dX8_put_70 rfl ?_
              refine r_iast (q := 72) C (vN) dX8_put_71 rfl (by assumption) (by omega) (by omega) (by omega) (by decide) ?_
              refine r_al5 (q := 74) C dX8_put_72 rfl ?_
              refine r_getR (q := 77) C f_X8_373 dX8_put_74 rfl rfl (by assumption) (by assumption) (by omega) ?_
              refine r_il2 (q := 78) C dX8_put_77 rfl ?_
              refine r_il4 (q := 80) C dX8_put_78 rfl ?_
              refine r_iast (q := 81) C (vN) dX8_put_80 rfl (by assumption) (by omega) (by omega) (by omega) (by decide) ?_
              refine r_il6 (q := 83) C dX8_put_81 rfl ?_
              refine r_ifeq_t (q := 90) C (by decide) (by omega) dX8_put_83 (by decide) ?_
              refine r_iconst (q := 91) C dX8_put_90 rfl ?_
              exact r_iret C hr dX8_put_91 (by decide) (by decide) ⟨_, rfl, rfl, by rw [hs, if_neg (by omega)], by rw [hs]; exact ⟨oBR_put hB hzN hvN (by omega) (by omega) rfl, fun x hx => by rw [o_up_ne (by omega), o_up_ne (by omega)]⟩⟩
          · refine r_ifne_f (q := 56) (q2 := 53) C (by decide) (by omega) dX8_put_50 (by decide) rfl ?_
            rw [b0.1] at br47
            rw [if_pos (Decidable.byContradiction (fun hc => br47 ((noTk_of (by omega)).mpr hc)))] at hs
            refine r_bipush (q := 55) C dX8_put_53 (by decide) rfl ?_
            exact r_iret C hr dX8_put_55 (by decide) (by decide) ⟨_, rfl, rfl, by rw [hs], by rw [hs]; exact ⟨hB, fun _ _ => rfl⟩⟩
        · refine r_ifne_f (q := 35) (q2 := 33) C (by decide) (by omega) dX8_put_30 (by decide) rfl ?_
          refine r_iconst (q := 34) C dX8_put_33 rfl ?_
          exact r_iret C hr dX8_put_34 (by decide) (by decide) ⟨_, rfl, rfl, by rw [fPut, if_neg (fun hc => by have := hc.2.2; omega)], by rw [fPut, if_neg (fun hc => by have := hc.2.2; omega)]; exact ⟨hB, fun _ _ => rfl⟩⟩
    · refine r_ifne_f (q := 19) (q2 := 17) C (by decide) (by omega) dX8_put_14 (by decide) rfl ?_
      refine r_iconst (q := 18) C dX8_put_17 rfl ?_
      exact r_iret C hr dX8_put_18 (by decide) (by decide) ⟨_, rfl, rfl, by rw [fPut, if_neg (fun hc => br11 hc.2.1)], by rw [fPut, if_neg (fun hc => br11 hc.2.1)]; exact ⟨hB, fun _ _ => rfl⟩⟩
  · refine r_ifeq_t (q := 17) C (by decide) (by omega) dX8_put_6 (by decide) ?_
    refine r_iconst (q := 18) C dX8_put_17 rfl ?_
    exact r_iret C hr dX8_put_18 (by decide) (by decide) ⟨_, rfl, rfl, by rw [fPut, if_neg (fun hc => br3 hc.1)], by rw [fPut, if_neg (fun hc => br3 hc.1)]; exact ⟨hB, fun _ _ => rfl⟩⟩
set_option maxRecDepth 20000 in
set_option maxHeartbeats 8000000 in
theorem c_X8_look {T : oT} {σ : oM} {xC : Nat} {bx : oBoxes} (hX : oX T xC) (hB : oBR σ xC bx) {z v w : Int} (hz : o_r z) (hv : o_r v) (hw : o_r w) : MS yX8_look cX8_look 4 (some FieldType.int) 3 0 0 64 [og xC, oi z, oi v, oi w] T σ (oP1 (oi (fLook bx z v w)) T σ) := by
  have hXc := hX
  obtain ⟨hX0, hXr0, hXr1, hXr2, hXr3, hXr4, hXr5, hXr6, hXn, hXs, hXy, hXq, hXk, hXb, hXbs, hXi, hXT⟩ := hXc
  refine o_met (by decide +kernel) (Nat.le_of_ble_eq_true rfl) (fun p l ee s m args below meth c G b C hr hn => ?_)
  have C : oCx p s m args meth c G b RX8 cX8_look 4 := C
  show oW p l ee ({ frames := 3, cells := 0, slots := 0, locals := 64 } : Room) s m args below meth c G b 4 0 0 (MQ below (o_Qc G b (oP1 (oi (fLook bx z v w)) T σ)) args s 0 0 (fun q => b ≤ q)) T σ 0 [some (og xC), some (oi z), some (oi v), some (oi w)] []
  refine r_al0 (q := 1) C dX8_look_0 rfl ?_
  refine r_il1 (q := 2) C dX8_look_1 rfl ?_
  refine r_il2 (q := 3) C dX8_look_2 rfl ?_
  refine r_callVb (q := 6) C (c_X8_isPlace hX hB (by omega) (by omega)) m_X8_362 (by assumption) (by omega) dX8_look_3 rfl rfl (by decide) (by decide) (Nat.le_of_ble_eq_true rfl) (fun br3 => ?_) (fun br3 => ?_)
  · refine r_ifeq_f (q := 18) (q2 := 9) C (by decide) (by omega) dX8_look_6 (by decide) rfl ?_
    refine r_il3 (q := 10) C dX8_look_9 rfl ?_
    refine r_iconst (q := 11) C dX8_look_10 rfl ?_
    refine r_iconst (q := 12) C dX8_look_11 rfl ?_
    refine r_callSb (q := 15) C (c_X8_within hw (by omega) (by omega)) m_X8_68 dX8_look_12 rfl rfl (by decide) (by decide) (Nat.le_of_ble_eq_true rfl) (fun br12 => ?_) (fun br12 => ?_)
    · refine r_ifne_t (q := 20) C (by decide) (by omega) dX8_look_15 (by decide) ?_
      have hs := fLook.eq_1 bx z v w
      rw [if_pos ⟨br3, br12⟩] at hs
      obtain ⟨zN, rfl⟩ : ∃ zN : Nat, z = (zN : Int) := ⟨z.toNat, by have := br3.1; omega⟩
      obtain ⟨vN, rfl⟩ : ∃ vN : Nat, v = (vN : Int) := ⟨v.toNat, by have := br3.2; omega⟩
      have hzN : zN < 3 := by have := br3.1; omega
      have hBj := (hXbs zN hzN).1
      have hBx := (hXbs zN hzN).2
      have hB1 := hB zN hzN
      obtain ⟨b0, b1, b2⟩ := id hB1
      obtain ⟨b00, b01, b02, b03, b04, b05⟩ := id hBx
      have hpv := br3.2
      simp only [Int.toNat_natCast] at hs hpv
      have hvN : vN < 8 := by omega
      obtain ⟨q1, q2, q3, q4⟩ := b2 vN hvN
      have q5 := q4 (by omega)
      refine r_al0 (q := 21) C dX8_look_20 rfl ?_
      refine r_getR (q := 24) C f_X8_42 dX8_look_21 rfl rfl (by assumption) (by assumption) (by omega) ?_
      refine r_il1 (q := 25) C dX8_look_24 rfl ?_
      refine r_aald (q := 26) C (zN) dX8_look_25 rfl (by assumption) (by omega) (by omega) (by omega) (by decide) hBj rfl rfl (by decide) (by decide) ?_
      refine r_il2 (q := 27) C dX8_look_26 rfl ?_
      refine r_callVb (q := 30) C (c_X1_isEmptyAt (ix := vN) hBx hvN (by omega)) m_X8_368 (by assumption) (by omega) dX8_look_27 rfl rfl (by decide) (by decide) (Nat.le_of_ble_eq_true rfl) (fun br27 => ?_) (fun br27 => ?_)
      · refine r_ifeq_f (q := 36) (q2 := 33) C (by decide) (by omega) dX8_look_30 (by decide) rfl ?_
        refine r_bipush (q := 35) C dX8_look_33 (by decide) rfl ?_
        exact r_iret C hr dX8_look_35 (by decide) (by decide) ⟨by rw [hs, if_pos (by omega)], rfl, rfl⟩
      · refine r_ifeq_t (q := 36) C (by decide) (by omega) dX8_look_30 (by decide) ?_
        refine r_il3 (q := 37) C dX8_look_36 rfl ?_
        refine r_ifne (q := 54) (q2 := 40) C (by omega) dX8_look_37 (by decide) rfl (fun br37 => ?_) (fun br37 => ?_)
        · refine r_al0 (q := 55) C dX8_look_54 rfl ?_
          refine r_getR (q := 58) C f_X8_42 dX8_look_55 rfl rfl (by assumption) (by assumption) (by omega) ?_
          refine r_il1 (q := 59) C dX8_look_58 rfl ?_
          refine r_aald (q := 60) C (zN) dX8_look_59 rfl (by assumption) (by omega) (by omega) (by omega) (by decide) hBj rfl rfl (by decide) (by decide) ?_
          refine r_getR (q := 63) C f_X8_373 dX8_look_60 rfl rfl (by assumption) (by assumption) (by omega) ?_
          refine r_il2 (q := 64) C dX8_look_63 rfl ?_
          refine r_iald (q := 65) C (vN) dX8_look_64 rfl (by assumption) (by omega) (by omega) (by omega) (by decide) ?_
          exact r_iret C hr dX8_look_65 (by decide) (by decide) ⟨by rw [hs, if_neg (by omega), if_neg br37, q1.1], rfl, rfl⟩
        · refine r_al0 (q := 41) C dX8_look_40 rfl ?_
          refine r_getR (q := 44) C f_X8_42 dX8_look_41 rfl rfl (by assumption) (by assumption) (by omega) ?_
          refine r_il1 (q := 45) C dX8_look_44 rfl ?_
          refine r_aald (q := 46) C (zN) dX8_look_45 rfl (by assumption) (by omega) (by omega) (by omega) (by decide) hBj rfl rfl (by decide) (by decide) ?_
          refine r_getR (q := 49) C f_X8_371 dX8_look_46 rfl rfl (by assumption) (by assumption) (by omega) ?_
          refine r_il2 (q := 50) C dX8_look_49 rfl ?_
          refine r_iald (q := 51) C (vN) dX8_look_50 rfl (by assumption) (by omega) (by omega) (by omega) (by decide) ?_
          refine r_goto (q := 65) C dX8_look_51 (by decide) ?_
          exact r_iret C hr dX8_look_65 (by decide) (by decide) ⟨by rw [hs, if_neg (by omega), if_pos br37, q5], rfl, rfl⟩
    · refine r_ifne_f (q := 20) (q2 := 18) C (by decide) (by omega) dX8_look_15 (by decide) rfl ?_
      refine r_iconst (q := 19) C dX8_look_18 rfl ?_
      exact r_iret C hr dX8_look_19 (by decide) (by decide) ⟨by rw [fLook, if_neg (fun hc => br12 hc.2)], rfl, rfl⟩
  · refine r_ifeq_t (q := 18) C (by decide) (by omega) dX8_look_6 (by decide) ?_
    refine r_iconst (q := 19) C dX8_look_18 rfl ?_
    exact r_iret C hr dX8_look_19 (by decide) (by decide) ⟨by rw [fLook, if_neg (fun hc => br3 hc.1)], rfl, rfl⟩
