/-! what constructors make -/
/-- from cell a on, T2 is as T was -/
def oFrm (a : Nat) (T T2 : oT) : Prop := T.1 ≤ T2.1 ∧ ∀ x, a ≤ x → x < T.1 → T2.2.1 x = T.2.1 x ∧ T2.2.2 x = T.2.2 x
theorem oEd_at {T T2 : oT} {fr eC : Nat} (h : oEd T eC) (hx : oFrm fr T T2) (hle : fr ≤ eC) : oEd T2 eC := by
  obtain ⟨h0, h1, h2, h3, h4, h5, h6, h7, h8, h9, h10, h11, h12, h13, h14, h15, h16, h17, hz⟩ := h
  exact ⟨(hx.2 _ (by omega) (by omega)).1.trans h0, (congrFun (hx.2 _ (by omega) (by omega)).2 _).trans h1, (congrFun (hx.2 _ (by omega) (by omega)).2 _).trans h2, (congrFun (hx.2 _ (by omega) (by omega)).2 _).trans h3, (congrFun (hx.2 _ (by omega) (by omega)).2 _).trans h4, (congrFun (hx.2 _ (by omega) (by omega)).2 _).trans h5, (congrFun (hx.2 _ (by omega) (by omega)).2 _).trans h6, (congrFun (hx.2 _ (by omega) (by omega)).2 _).trans h7, (congrFun (hx.2 _ (by omega) (by omega)).2 _).trans h8, (hx.2 _ (by omega) (by omega)).1.trans h9, (hx.2 _ (by omega) (by omega)).1.trans h10, (hx.2 _ (by omega) (by omega)).1.trans h11, (hx.2 _ (by omega) (by omega)).1.trans h12, (hx.2 _ (by omega) (by omega)).1.trans h13, fun i hi => ⟨(congrFun (hx.2 _ (by omega) (by omega)).2 _).trans (h14 i hi).1, (hx.2 _ (by omega) (by omega)).1.trans (h14 i hi).2⟩, (hx.2 _ (by omega) (by omega)).1.trans h15, (hx.2 _ (by omega) (by omega)).1.trans h16, (hx.2 _ (by omega) (by omega)).1.trans h17, Nat.le_trans hz hx.1⟩
theorem oHd_at {T T2 : oT} {fr hC : Nat} (h : oHd T hC) (hx : oFrm fr T T2) (hle : fr ≤ hC) : oHd T2 hC := by
  obtain ⟨h0, h1, h2, h3, h4, h5, h6, h7, h8, h9, h10, h11, h12, hz⟩ := h
  exact ⟨(hx.2 _ (by omega) (by omega)).1.trans h0, (congrFun (hx.2 _ (by omega) (by omega)).2 _).trans h1, (congrFun (hx.2 _ (by omega) (by omega)).2 _).trans h2, (congrFun (hx.2 _ (by omega) (by omega)).2 _).trans h3, (congrFun (hx.2 _ (by omega) (by omega)).2 _).trans h4, (congrFun (hx.2 _ (by omega) (by omega)).2 _).trans h5, (hx.2 _ (by omega) (by omega)).1.trans h6, (hx.2 _ (by omega) (by omega)).1.trans h7, (hx.2 _ (by omega) (by omega)).1.trans h8, (hx.2 _ (by omega) (by omega)).1.trans h9, (hx.2 _ (by omega) (by omega)).1.trans h10, fun i hi => ⟨(congrFun (hx.2 _ (by omega) (by omega)).2 _).trans (h11 i hi).1, oEd_at (h11 i hi).2 hx (by omega)⟩, fun i hi => ⟨(congrFun (hx.2 _ (by omega) (by omega)).2 _).trans (h12 i hi).1, (hx.2 _ (by omega) (by omega)).1.trans (h12 i hi).2⟩, Nat.le_trans hz hx.1⟩
theorem oHy_at {T T2 : oT} {fr yC : Nat} (h : oHy T yC) (hx : oFrm fr T T2) (hle : fr ≤ yC) : oHy T2 yC := by
  obtain ⟨h0, h1, h2, h3, hz⟩ := h
  exact ⟨(hx.2 _ (by omega) (by omega)).1.trans h0, (congrFun (hx.2 _ (by omega) (by omega)).2 _).trans h1, (hx.2 _ (by omega) (by omega)).1.trans h2, fun i hi => ⟨(congrFun (hx.2 _ (by omega) (by omega)).2 _).trans (h3 i hi).1, oHd_at (h3 i hi).2 hx (by omega)⟩, Nat.le_trans hz hx.1⟩
theorem oCm_at {T T2 : oT} {fr qC : Nat} (h : oCm T qC) (hx : oFrm fr T T2) (hle : fr ≤ qC) : oCm T2 qC := by
  obtain ⟨h0, h1, h2, h3, h4, h5, h6, h7, h8, hz⟩ := h
  exact ⟨(hx.2 _ (by omega) (by omega)).1.trans h0, (congrFun (hx.2 _ (by omega) (by omega)).2 _).trans h1, (congrFun (hx.2 _ (by omega) (by omega)).2 _).trans h2, (congrFun (hx.2 _ (by omega) (by omega)).2 _).trans h3, (congrFun (hx.2 _ (by omega) (by omega)).2 _).trans h4, (hx.2 _ (by omega) (by omega)).1.trans h5, (hx.2 _ (by omega) (by omega)).1.trans h6, (hx.2 _ (by omega) (by omega)).1.trans h7, (hx.2 _ (by omega) (by omega)).1.trans h8, Nat.le_trans hz hx.1⟩
theorem oBx_at {T T2 : oT} {fr aC : Nat} (h : oBx T aC) (hx : oFrm fr T T2) (hle : fr ≤ aC) : oBx T2 aC := by
  obtain ⟨h0, h1, h2, h3, h4, hz⟩ := h
  exact ⟨(hx.2 _ (by omega) (by omega)).1.trans h0, (congrFun (hx.2 _ (by omega) (by omega)).2 _).trans h1, (congrFun (hx.2 _ (by omega) (by omega)).2 _).trans h2, (hx.2 _ (by omega) (by omega)).1.trans h3, (hx.2 _ (by omega) (by omega)).1.trans h4, Nat.le_trans hz hx.1⟩
theorem oTx_at {T T2 : oT} {fr iC : Nat} (h : oTx T iC) (hx : oFrm fr T T2) (hle : fr ≤ iC) : oTx T2 iC := by
  obtain ⟨h0, h1, h2, h3, h4, h5, h6, h7, hz⟩ := h
  exact ⟨(hx.2 _ (by omega) (by omega)).1.trans h0, (congrFun (hx.2 _ (by omega) (by omega)).2 _).trans h1, (congrFun (hx.2 _ (by omega) (by omega)).2 _).trans h2, (congrFun (hx.2 _ (by omega) (by omega)).2 _).trans h3, (hx.2 _ (by omega) (by omega)).1.trans h4, (hx.2 _ (by omega) (by omega)).1.trans h5, (hx.2 _ (by omega) (by omega)).1.trans h6, fun i hi => ⟨(congrFun (hx.2 _ (by omega) (by omega)).2 _).trans (h7 i hi).1, (hx.2 _ (by omega) (by omega)).1.trans (h7 i hi).2⟩, Nat.le_trans hz hx.1⟩
theorem oNx_frm {T T2 : oT} {σ σ2 : oM} {a w fr : Nat} (h : oNx T T2 σ σ2 a w) (hT : T.1 ≤ a) : oFrm fr T T2 := ⟨by rw [h.1]; omega, fun x _ hx => h.2.1 x (by omega)⟩
theorem oNx_new {T T5 : oT} {σ σ5 : oM} {w : Nat} {kd : Nat × Nat} (h : oNx (o_new T kd) T5 (o_new0 σ T.1) σ5 T.1 w) : oNx T T5 σ σ5 T.1 (w + 1) := by
  obtain ⟨h1, h2, h3⟩ := h
  refine ⟨by rw [h1]; show T.1 + 1 + w = T.1 + (w + 1); omega, fun x hx => ⟨(h2 x hx).1.trans ?_, (h2 x hx).2.trans ?_⟩, fun x hx => (h3 x hx).trans ?_⟩
  · show (if x = T.1 then kd else T.2.1 x) = T.2.1 x
    rw [if_neg (by omega)]
  · show (if x = T.1 then fun _ => none else T.2.2 x) = T.2.2 x
    rw [if_neg (by omega)]
  · show (if x = T.1 then fun _ => 0 else σ x) = σ x
    rw [if_neg (by omega)]
theorem o_new_s {T : oT} {kd : Nat × Nat} : (o_new T kd).2.1 T.1 = kd := if_pos rfl
theorem o_new_z {σ : oM} {a : Nat} : o_new0 σ a a = fun _ => 0 := if_pos rfl
/-- an array of objects at a0 filled up to kx, objects of w cells behind it -/
def oQ (P : oT → oM → Nat → Prop) (B : oT) (β : oM) (Tk : oT) (σk : oM) (a0 len kd w kx : Nat) : Prop := Tk.1 = a0 + 1 + w * kx ∧ Tk.2.1 a0 = (kd, len) ∧ (∀ ix, ix < kx → Tk.2.2 a0 ix = some (a0 + 1 + w * ix) ∧ P Tk σk (a0 + 1 + w * ix)) ∧ (∀ x, x < a0 → Tk.2.1 x = B.2.1 x ∧ Tk.2.2 x = B.2.2 x) ∧ ∀ x, x < a0 → σk x = β x
theorem oQ_0 {P : oT → oM → Nat → Prop} {B : oT} {β : oM} {a0 len kd w : Nat} (h1 : B.1 = a0 + 1) (h2 : B.2.1 a0 = (kd, len)) : oQ P B β B β a0 len kd w 0 := ⟨h1, h2, fun _ h => absurd h (Nat.not_lt_zero _), fun _ _ => ⟨rfl, rfl⟩, fun _ _ => rfl⟩
theorem oQ_s {P : oT → oM → Nat → Prop} {B Tk T5 : oT} {β σk σ5 : oM} {a0 len kd w kx : Nat} (h : oQ P B β Tk σk a0 len kd w kx) (hP : ∀ (T T2 : oT) (σ σ2 : oM) (e : Nat), P T σ e → a0 + 1 ≤ e → oFrm (a0 + 1) T T2 → (∀ x, a0 + 1 ≤ x → x < T.1 → σ2 x = σ x) → P T2 σ2 e) (hE : P T5 σ5 Tk.1) (hN : oNx Tk T5 σk σ5 Tk.1 w) : oQ P B β (T5.1, T5.2.1, o_rup T5.2.2 a0 kx Tk.1) σ5 a0 len kd w (kx + 1) := by
  obtain ⟨h1, h2, h3, h4, h5⟩ := h
  obtain ⟨n1, n2, n3⟩ := hN
  have hw : w * (kx + 1) = w * kx + w := Nat.mul_succ w kx
  have hF : oFrm (a0 + 1) T5 (T5.1, T5.2.1, o_rup T5.2.2 a0 kx Tk.1) := ⟨Nat.le_refl _, fun x x1 x2 => ⟨rfl, by
    funext i
    show (if x = a0 ∧ i = kx then some Tk.1 else T5.2.2 x i) = T5.2.2 x i
    rw [if_neg (fun q => by omega)]⟩⟩
  have hFk : oFrm (a0 + 1) Tk (T5.1, T5.2.1, o_rup T5.2.2 a0 kx Tk.1) := ⟨by show Tk.1 ≤ T5.1; omega, fun x x1 x2 => ⟨(n2 x x2).1, ((hF.2 x x1 (by omega)).2.trans (n2 x x2).2)⟩⟩
  refine ⟨by show T5.1 = _; omega, ?_, fun ix hi => ?_, fun x hx => ⟨?_, ?_⟩, fun x hx => ?_⟩
  · show T5.2.1 a0 = (kd, len)
    rw [(n2 a0 (by omega)).1]
    exact h2
  · by_cases hc : ix < kx
    · refine ⟨?_, hP Tk _ σk σ5 _ (h3 ix hc).2 (Nat.le_add_right _ _) hFk (fun x x1 x2 => n3 x x2)⟩
      show (if a0 = a0 ∧ ix = kx then some Tk.1 else T5.2.2 a0 ix) = _
      rw [if_neg (by omega), (n2 a0 (by omega)).2]
      exact (h3 ix hc).1
    · have hix : ix = kx := by omega
      subst hix
      refine ⟨?_, ?_⟩
      · show (if a0 = a0 ∧ ix = ix then some Tk.1 else _) = _
        rw [if_pos ⟨rfl, rfl⟩, h1]
      · rw [← h1]
        exact hP T5 _ σ5 σ5 _ hE (by omega) hF (fun _ _ _ => rfl)
  · show T5.2.1 x = B.2.1 x
    rw [(n2 x (by omega)).1]
    exact (h4 x hx).1
  · funext i
    show (if x = a0 ∧ i = kx then some Tk.1 else T5.2.2 x i) = B.2.2 x i
    rw [if_neg (fun q => by omega), (n2 x (by omega)).2, (h4 x hx).2]
  · rw [n3 x (by omega)]
    exact h5 x hx
theorem nw_X6_9 : o_NW RX6 9 4 := ⟨RX4, TX4, 11, cf_X4, o_t1 32 rfl rfl, o_t1 34 rfl rfl, o_t1 3 rfl rfl⟩
theorem nw_X6_28 : o_NW RX6 28 7 := ⟨RX7, TX7, 8, cf_X7, o_t1 97 rfl rfl, o_t1 99 rfl rfl, o_t1 4 rfl rfl⟩
theorem nw_X8_7 : o_NW RX8 7 6 := ⟨RX6, TX6, 8, cf_X6, o_t1 26 rfl rfl, o_t1 27 rfl rfl, o_t1 2 rfl rfl⟩
theorem nw_X5_11 : o_NW RX5 11 6 := ⟨RX6, TX6, 8, cf_X6, o_t1 183 rfl rfl, o_t1 27 rfl rfl, o_t1 2 rfl rfl⟩
theorem nw_X8_19 : o_NW RX8 19 5 := ⟨RX5, TX5, 3, cf_X5, o_t1 177 rfl rfl, o_t1 178 rfl rfl, o_t1 5 rfl rfl⟩
theorem nw_X8_26 : o_NW RX8 26 3 := ⟨RX3, TX3, 7, cf_X3, o_t1 197 rfl rfl, o_t1 198 rfl rfl, o_t1 6 rfl rfl⟩
theorem nw_X8_33 : o_NW RX8 33 0 := ⟨RX0, TX0, 5, cf_X0, o_t1 232 rfl rfl, o_t1 233 rfl rfl, o_t1 7 rfl rfl⟩
theorem nw_X8_40 : o_NW RX8 40 1 := ⟨RX1, TX1, 4, cf_X1, o_t2 19 rfl rfl, o_t2 21 rfl rfl, o_t1 8 rfl rfl⟩
theorem nw_X8_47 : o_NW RX8 47 2 := ⟨RX2, TX2, 6, cf_X2, o_t2 42 rfl rfl, o_t2 43 rfl rfl, o_t1 9 rfl rfl⟩
