/-! the reference's history -/
/-- n numbers from place fN of cell aC on copied to place tN of cell bC on -/
def o_cpy (σ : oM) (aC fN bC tN n : Nat) : oM := fun x j => if x = bC ∧ tN ≤ j ∧ j < tN + n then σ aC (j - tN + fN) else σ x j
theorem o_cpy_0 {σ : oM} {aC fN bC tN : Nat} : o_cpy σ aC fN bC tN 0 = σ := by
  funext x j
  unfold o_cpy
  rw [if_neg (by omega)]
theorem o_cpy_ne {σ : oM} {aC fN bC tN n x : Nat} (h : x ≠ bC) : o_cpy σ aC fN bC tN n x = σ x := by
  funext j
  unfold o_cpy
  rw [if_neg (by omega)]
theorem o_cpy_nj {σ : oM} {aC fN bC tN n x j : Nat} (h : j < tN ∨ tN + n ≤ j) : o_cpy σ aC fN bC tN n x j = σ x j := by
  unfold o_cpy
  rw [if_neg (by omega)]
theorem o_cpy_in {σ : oM} {aC fN bC tN n j : Nat} (h : j < n) : o_cpy σ aC fN bC tN n bC (tN + j) = σ aC (fN + j) := by
  unfold o_cpy
  rw [if_pos (by omega), show tN + j - tN + fN = fN + j by omega]
theorem o_cpy_s {σ : oM} {aC fN bC tN n : Nat} : o_up (o_cpy σ aC fN bC tN n) bC (tN + n) (σ aC (fN + n)) = o_cpy σ aC fN bC tN (n + 1) := by
  funext x j
  by_cases hc : x = bC ∧ j = tN + n
  · obtain ⟨rfl, rfl⟩ := hc
    rw [o_up_at, o_cpy_in (by omega)]
  · rw [o_up_nj (by omega)]
    unfold o_cpy
    by_cases h2 : x = bC ∧ tN ≤ j ∧ j < tN + n
    · rw [if_pos h2, if_pos (by omega)]
    · rw [if_neg h2, if_neg (by omega)]
/-- the history says the list Lh, the oldest first -/
def oMH (σ : oM) (mC : Nat) (Lh : List (Nat → Int)) : Prop := σ mC 4 = (Lh.length : Int) ∧ Lh.length ≤ 8 ∧ ∀ (kx : Nat) (B : Nat → Int), Lh[kx]? = some B → ∀ x, x < 5055 → σ (mC + 4) (5055 * kx + x) = B x
/-- history Lh, all else as it was -/
def oMk (σ σ2 : oM) (mC : Nat) (Lh : List (Nat → Int)) : Prop := oMH σ2 mC Lh ∧ (∀ x, x ≠ mC → x ≠ mC + 4 → σ2 x = σ x) ∧ ∀ k, k ≠ 4 → σ2 mC k = σ mC k
theorem oMk_rf {σ : oM} {mC : Nat} {Lh : List (Nat → Int)} (h : oMH σ mC Lh) : oMk σ σ mC Lh := ⟨h, fun _ _ _ => rfl, fun _ _ => rfl⟩
def keptL (wi : Int) (Lh : List (Nat → Int)) (A : Nat → Int) : List (Nat → Int) := if wi = 0 then hpush Lh A else Lh
theorem oMH_fr {σ σ2 : oM} {mC : Nat} {Lh : List (Nat → Int)} (h : oMH σ mC Lh) (h1 : σ2 mC 4 = σ mC 4) (h2 : σ2 (mC + 4) = σ (mC + 4)) : oMH σ2 mC Lh := ⟨by rw [h1]; exact h.1, h.2.1, fun kx B hB x hx => by rw [h2]; exact h.2.2 kx B hB x hx⟩
theorem oMH_push {σ σ1 : oM} {mC aC : Nat} {Lh : List (Nat → Int)} (h : oMH σ mC Lh) (ha : aC ≠ mC + 4 ∧ aC ≠ mC) (h1 : ∀ x, x ≠ mC → x ≠ mC + 4 → σ1 x = σ x) (hk : ∀ k, k ≠ 4 → σ1 mC k = σ mC k) (h4 : σ1 mC 4 = ((if Lh.length = 8 then 7 else Lh.length : Nat) : Int)) (hr : if Lh.length = 8 then ∀ r, r < 7 → ∀ x, x < 5055 → σ1 (mC + 4) (5055 * r + x) = σ (mC + 4) (5055 * (r + 1) + x) else σ1 (mC + 4) = σ (mC + 4)) :
    oMk σ (o_up (o_cpy σ1 aC 0 (mC + 4) (5055 * (if Lh.length = 8 then 7 else Lh.length)) 5055) mC 4 (((if Lh.length = 8 then 7 else Lh.length : Nat) : Int) + 1)) mC (hpush Lh (σ aC)) ∧ ((hpush Lh (σ aC)).length : Int) = ((if Lh.length = 8 then 7 else Lh.length : Nat) : Int) + 1 := by
  have h8 := h.2.1
  have hl : (hpush Lh (σ aC)).length = (if Lh.length = 8 then 7 else Lh.length) + 1 := by
    unfold hpush
    rw [List.length_append, List.length_cons, List.length_nil]
    by_cases hc : Lh.length = 8
    · rw [if_pos hc, if_pos hc, List.length_drop]
      omega
    · rw [if_neg hc, if_neg hc]
  refine ⟨⟨⟨?_, by rw [hl]; split <;> omega, fun kx B hB x hx => ?_⟩, fun x x1 x2 => ?_, fun k hk4 => ?_⟩, by rw [hl]; rfl⟩
  · rw [o_up_at, hl]
    rfl
  · have hlt := (List.getElem?_eq_some_iff.mp hB).1
    rw [o_up_ne (by omega)]
    by_cases hc : Lh.length = 8
    · rw [if_pos hc] at hr hl ⊢
      by_cases hk7 : kx = 7
      · subst hk7
        unfold hpush at hB
        rw [if_pos hc, List.getElem?_append_right (by rw [List.length_drop]; omega), List.length_drop, hc] at hB
        cases hB
        rw [o_cpy_in hx, Nat.zero_add, h1 aC ha.2 ha.1]
      · unfold hpush at hB
        rw [if_pos hc, List.getElem?_append_left (by rw [List.length_drop]; omega), List.getElem?_drop] at hB
        rw [o_cpy_nj (by omega), hr kx (by omega) x hx, Nat.add_comm kx 1]
        exact h.2.2 (1 + kx) B hB x hx
    · rw [if_neg hc] at hr hl ⊢
      by_cases hk7 : kx = Lh.length
      · subst hk7
        unfold hpush at hB
        rw [if_neg hc, List.getElem?_append_right (Nat.le_refl _), Nat.sub_self] at hB
        cases hB
        rw [o_cpy_in hx, Nat.zero_add, h1 aC ha.2 ha.1]
      · unfold hpush at hB
        rw [if_neg hc, List.getElem?_append_left (by omega)] at hB
        rw [o_cpy_nj (by omega), hr]
        exact h.2.2 kx B hB x hx
  · rw [o_up_ne x1, o_cpy_ne x2, h1 x x1 x2]
  · rw [o_up_nj (Or.inr hk4), o_cpy_ne (by omega), hk k hk4]
set_option maxRecDepth 20000 in
set_option maxHeartbeats 8000000 in
theorem c_X9_copies {T : oT} {σ : oM} {aC fN bC tN la lb : Nat} (hsa : T.2.1 aC = (10, la)) (hsb : T.2.1 bC = (10, lb)) (haT : aC < T.1) (hbT : bC < T.1) (hla : fN + 5055 ≤ la) (hlb : tN + 5055 ≤ lb) (hla6 : la ≤ 1000000) (hlb6 : lb ≤ 1000000) (hd2 : aC ≠ bC ∨ tN + 5055 ≤ fN) : MS yX9_copies cX9_copies 5 none 0 0 0 0 [og aC, oi ((fN : Nat) : Int), og bC, oi ((tN : Nat) : Int)] T σ (oPv (fun σ2 => σ2 = o_cpy σ aC fN bC tN 5055) T) := by
  refine o_met (by decide +kernel) (Nat.le_of_ble_eq_true rfl) (fun p l ee s m args below meth c G b C hr hn => ?_)
  have C : oCx p s m args meth c G b RX9 cX9_copies 5 := C
  show oW p l ee ({ frames := 0, cells := 0, slots := 0, locals := 0 } : Room) s m args below meth c G b 5 0 0 (MQ below (o_Qc G b (oPv (fun σ2 => σ2 = o_cpy σ aC fN bC tN 5055) T)) args s 0 0 (fun q => b ≤ q)) T σ 0 [some (og aC), some (oi ((fN : Nat) : Int)), some (og bC), some (oi ((tN : Nat) : Int)), none] []
  have lp : ∀ (n : Nat) (jx : Nat), 5055 - jx < n → (jx ≤ 5055) → oW p l ee ({ frames := 0, cells := 0, slots := 0, locals := 0 } : Room) s m args below meth c G b 5 0 0 (MQ below (o_Qc G b (oPv (fun σ2 => σ2 = o_cpy σ aC fN bC tN 5055) T)) args s 0 0 (fun q => b ≤ q)) T (o_cpy σ aC fN bC tN jx) 3 [some (og aC), some (oi ((fN : Nat) : Int)), some (og bC), some (oi ((tN : Nat) : Int)), some (oi ((jx : Nat) : Int))] [] := by
    intro n
    induction n with
    | zero =>
      intro jx hms
      exact absurd hms (Nat.not_lt_zero _)
    | succ n ih =>
      intro jx hms h1
      refine r_il4 (q := 5) C dX9_copies_3 rfl ?_
      refine r_sipush (q := 8) C dX9_copies_5 (by decide) rfl ?_
      refine r_icge (q := 29) (q2 := 11) C (by omega) (by omega) dX9_copies_8 (by decide) rfl (fun br8 => ?_) (fun br8 => ?_)
      · exact r_vret C hr dX9_copies_29 (by decide) (by decide) ⟨rfl, rfl, by rw [show jx = 5055 by omega]⟩
      · refine r_al2 (q := 12) C dX9_copies_11 rfl ?_
        refine r_il3 (q := 13) C dX9_copies_12 rfl ?_
        refine r_il4 (q := 15) C dX9_copies_13 rfl ?_
        refine r_iadd (q := 16) C dX9_copies_15 rfl ?_
        refine r_al0 (q := 17) C dX9_copies_16 rfl ?_
        refine r_il1 (q := 18) C dX9_copies_17 rfl ?_
        refine r_il4 (q := 20) C dX9_copies_18 rfl ?_
        refine r_iadd (q := 21) C dX9_copies_20 rfl ?_
        refine r_iald (q := 22) C (fN + jx) dX9_copies_21 rfl (by assumption) (by omega) (by omega) (by omega) (by omega) ?_
        rw [show (o_cpy σ aC fN bC tN jx) aC (fN + jx) = σ aC (fN + jx) from (hd2.elim (fun q => congrFun (o_cpy_ne q) _) (fun q => o_cpy_nj (by omega)))]
        refine r_iast (q := 23) C (tN + jx) dX9_copies_22 rfl (by assumption) (by omega) (by omega) (by omega) (by omega) ?_
        rw [o_cpy_s]
        refine r_iinc4 (q := 26) C dX9_copies_23 rfl (by decide) ?_
        refine r_goto (q := 3) C dX9_copies_26 (by decide) ?_
        exact ih (jx + 1) (by omega) (by omega)
  refine r_iconst (q := 1) C dX9_copies_0 rfl ?_
  refine r_is4 (q := 3) C dX9_copies_1 rfl (by decide) ?_
  have h0 := lp _ 0 (Nat.lt_succ_self _) (by omega)
  rw [o_cpy_0] at h0
  exact h0
set_option maxRecDepth 20000 in
set_option maxHeartbeats 8000000 in
theorem c_X9_keepsFrom {T : oT} {σ : oM} {mC : Nat} (hM : oMm T mC) {Lh : List (Nat → Int)} (hH : oMH σ mC Lh) {aC : Nat} (haS : T.2.1 aC = (10, 5055)) (haT : aC < T.1) (ha1 : aC ≠ mC + 4) (ha2 : aC ≠ mC) : MS yX9_keepsFrom cX9_keepsFrom 3 (some FieldType.int) 1 0 0 24 [og mC, og aC] T σ (oPs (fun zx σ2 => zx = ((hpush Lh (σ aC)).length : Int) ∧ oMk σ σ2 mC (hpush Lh (σ aC))) T) := by
  have hMc := hM
  obtain ⟨hM0, hMr0, hMr1, hMr2, hMr3, hMr8, hMr9, hMr10, hMr11, hMr13, hMr14, hMr15, hMr16, hMr17, hMr18, hMr19, hMr20, hMk1, hMk2, hMk3, hMk4, hMk5, hMk6, hMk7, hMk8, hMk9, hMk10, hMk11, hMk12, hMk13, hMk14, hMk15, hMk16, hMT⟩ := hMc
  have hH8 := hH.2.1
  refine o_met (by decide +kernel) (Nat.le_of_ble_eq_true rfl) (fun p l ee s m args below meth c G b C hr hn => ?_)
  have C : oCx p s m args meth c G b RX9 cX9_keepsFrom 3 := C
  show oW p l ee ({ frames := 1, cells := 0, slots := 0, locals := 24 } : Room) s m args below meth c G b 3 0 0 (MQ below (o_Qc G b (oPs (fun zx σ2 => zx = ((hpush Lh (σ aC)).length : Int) ∧ oMk σ σ2 mC (hpush Lh (σ aC))) T)) args s 0 0 (fun q => b ≤ q)) T σ 0 [some (og mC), some (og aC), none] []
  have tl : ∀ (σ1 : oM) (w2 : Option oV) (nN : Nat), (∀ x, x ≠ mC → x ≠ mC + 4 → σ1 x = σ x) → (∀ k, k ≠ 4 → σ1 mC k = σ mC k) → σ1 mC 4 = (nN : Int) → nN = (if Lh.length = 8 then 7 else Lh.length) → (if Lh.length = 8 then ∀ r, r < 7 → ∀ x, x < 5055 → σ1 (mC + 4) (5055 * r + x) = σ (mC + 4) (5055 * (r + 1) + x) else σ1 (mC + 4) = σ (mC + 4)) → oW p l ee ({ frames := 1, cells := 0, slots := 0, locals := 24 } : Room) s m args below meth c G b 3 0 0 (MQ below (o_Qc G b (oPs (fun zx σ2 => zx = ((hpush Lh (σ aC)).length : Int) ∧ oMk σ σ2 mC (hpush Lh (σ aC))) T)) args s 0 0 (fun q => b ≤ q)) T σ1 56 [some (og mC), some (og aC), w2] [] := by
    intro σ1 w2 nN h1 hk h4 hn hrw
    have hn8 : nN ≤ 7 := by
      rw [hn]
      split <;> omega
    refine r_al1 (q := 57) C dX9_keepsFrom_56 rfl ?_
    refine r_iconst (q := 58) C dX9_keepsFrom_57 rfl ?_
    refine r_al0 (q := 59) C dX9_keepsFrom_58 rfl ?_
    refine r_getR (q := 62) C f_X9_20 dX9_keepsFrom_59 rfl rfl (by assumption) (by assumption) (by omega) ?_
    refine r_sipush (q := 65) C dX9_keepsFrom_62 (by decide) rfl ?_
    refine r_al0 (q := 66) C dX9_keepsFrom_65 rfl ?_
    refine r_getI (q := 69) C f_X9_23 dX9_keepsFrom_66 rfl rfl (by assumption) (by omega) ?_
    refine r_imul (q := 70) C dX9_keepsFrom_69 rfl ?_
    rw [h4, show (5055 : Int) * ((nN : Nat) : Int) = ((5055 * nN : Nat) : Int) by omega]
    refine r_callSv (q := 73) C (c_X9_copies (aC := aC) (bC := mC + 4) (fN := 0) (tN := 5055 * nN) (la := 5055) (lb := 40440) haS (by assumption) haT (by omega) (by omega) (by omega) (by decide) (by decide) (Or.inl ha1)) m_X9_97 dX9_keepsFrom_70 rfl rfl (by decide) (by decide) (Nat.le_of_ble_eq_true rfl) (fun σ2 hσ2 => ?_)
    refine r_al0 (q := 74) C dX9_keepsFrom_73 rfl ?_
    refine r_dup (q := 75) C dX9_keepsFrom_74 rfl ?_
    refine r_getI (q := 78) C f_X9_23 dX9_keepsFrom_75 rfl rfl (by assumption) (by omega) ?_
    have e7 : σ2 mC 4 = (nN : Int) := by rw [hσ2, o_cpy_ne (by omega)]; exact h4
    rw [e7]
    refine r_iconst (q := 79) C dX9_keepsFrom_78 rfl ?_
    refine r_iadd (q := 80) C dX9_keepsFrom_79 rfl ?_
    refine r_putI (q := 83) C fp_X9_23 dX9_keepsFrom_80 rfl rfl (by assumption) (by omega) ?_
    refine r_al0 (q := 84) C dX9_keepsFrom_83 rfl ?_
    refine r_getI (q := 87) C f_X9_23 dX9_keepsFrom_84 rfl rfl (by assumption) (by omega) ?_
    rw [o_up_at]
    refine r_iret C hr dX9_keepsFrom_87 (by decide) (by decide) ?_
    subst hn
    obtain ⟨g1, g2⟩ := oMH_push (aC := aC) hH ⟨ha1, ha2⟩ h1 hk h4 hrw
    exact ⟨_, rfl, rfl, g2.symm, by rw [hσ2]; exact g1⟩
  have lp : ∀ (n : Nat) (σ1 : oM) (kx : Nat), 8 - kx < n → (Lh.length = 8) → (1 ≤ kx ∧ kx ≤ 8) → (∀ x, x ≠ mC + 4 → σ1 x = σ x) → (∀ r, r < 8 → ∀ x, x < 5055 → σ1 (mC + 4) (5055 * r + x) = σ (mC + 4) (5055 * (if r + 1 < kx then r + 1 else r) + x)) → oW p l ee ({ frames := 1, cells := 0, slots := 0, locals := 24 } : Room) s m args below meth c G b 3 0 0 (MQ below (o_Qc G b (oPs (fun zx σ2 => zx = ((hpush Lh (σ aC)).length : Int) ∧ oMk σ σ2 mC (hpush Lh (σ aC))) T)) args s 0 0 (fun q => b ≤ q)) T σ1 11 [some (og mC), some (og aC), some (oi ((kx : Nat) : Int))] [] := by
    intro n
    induction n with
    | zero =>
      intro σ1 kx hms
      exact absurd hms (Nat.not_lt_zero _)
    | succ n ih =>
      intro σ1 kx hms h0 h1 h2 h3
      have hH8 := hH.2.1
      refine r_il2 (q := 12) C dX9_keepsFrom_11 rfl ?_
      refine r_bipush (q := 14) C dX9_keepsFrom_12 (by decide) rfl ?_
      refine r_icge (q := 46) (q2 := 17) C (by omega) (by omega) dX9_keepsFrom_14 (by decide) rfl (fun br14 => ?_) (fun br14 => ?_)
      · refine r_al0 (q := 47) C dX9_keepsFrom_46 rfl ?_
        refine r_dup (q := 48) C dX9_keepsFrom_47 rfl ?_
        refine r_getI (q := 51) C f_X9_23 dX9_keepsFrom_48 rfl rfl (by assumption) (by omega) ?_
        rw [show σ1 mC 4 = 8 by rw [h2 mC (by omega), hH.1]; omega]
        refine r_iconst (q := 52) C dX9_keepsFrom_51 rfl ?_
        refine r_isub (q := 53) C dX9_keepsFrom_52 rfl ?_
        refine r_putI (q := 56) C fp_X9_23 dX9_keepsFrom_53 rfl rfl (by assumption) (by omega) ?_
        exact tl _ _ 7 (fun x x1 x2 => by rw [o_up_ne x1]; exact h2 x x2) (fun k hk => by rw [o_up_nj (Or.inr hk), h2 mC (by omega)]) (by rw [o_up_at]; rfl) (by rw [if_pos (by omega)]) (by rw [if_pos (by omega)]; exact fun r hr x hx => by rw [o_up_ne (by omega), h3 r (by omega) x hx, if_pos (by omega)])
      · have e1 : 5055 * ((kx : Nat) : Int) = ((5055 * kx : Nat) : Int) := by omega
        have e2 : 5055 * (((kx : Nat) : Int) - 1) = ((5055 * (kx - 1) : Nat) : Int) := by omega
        refine r_al0 (q := 18) C dX9_keepsFrom_17 rfl ?_
        refine r_getR (q := 21) C f_X9_20 dX9_keepsFrom_18 rfl rfl (by assumption) (by assumption) (by omega) ?_
        refine r_sipush (q := 24) C dX9_keepsFrom_21 (by decide) rfl ?_
        refine r_il2 (q := 25) C dX9_keepsFrom_24 rfl ?_
        refine r_imul (q := 26) C dX9_keepsFrom_25 rfl ?_
        refine r_al0 (q := 27) C dX9_keepsFrom_26 rfl ?_
        refine r_getR (q := 30) C f_X9_20 dX9_keepsFrom_27 rfl rfl (by assumption) (by assumption) (by omega) ?_
        refine r_sipush (q := 33) C dX9_keepsFrom_30 (by decide) rfl ?_
        refine r_il2 (q := 34) C dX9_keepsFrom_33 rfl ?_
        refine r_iconst (q := 35) C dX9_keepsFrom_34 rfl ?_
        refine r_isub (q := 36) C dX9_keepsFrom_35 rfl ?_
        refine r_imul (q := 37) C dX9_keepsFrom_36 rfl ?_
        rw [e1, e2]
        refine r_callSv (q := 40) C (c_X9_copies (aC := mC + 4) (bC := mC + 4) (fN := 5055 * kx) (tN := 5055 * (kx - 1)) (la := 40440) (lb := 40440) (by assumption) (by assumption) (by omega) (by omega) (by omega) (by omega) (by decide) (by decide) (Or.inr (by omega))) m_X9_97 dX9_keepsFrom_37 rfl rfl (by decide) (by decide) (Nat.le_of_ble_eq_true rfl) (fun σ2 hσ2 => ?_)
        refine r_iinc2 (q := 43) C dX9_keepsFrom_40 rfl (by decide) ?_
        refine r_goto (q := 11) C dX9_keepsFrom_43 (by decide) ?_
        exact ih σ2 (kx + 1) (by omega) h0 (by omega) (fun x hx => by rw [hσ2, o_cpy_ne hx]; exact h2 x hx) (fun r hr x hx => by
          rw [hσ2]
          by_cases hk : r + 1 = kx
          · rw [if_pos (by omega), show 5055 * r = 5055 * (kx - 1) by omega, o_cpy_in hx, h3 kx (by omega) x hx, if_neg (by omega), hk]
          · rw [o_cpy_nj (by omega), h3 r hr x hx]
            by_cases hk2 : r + 1 < kx
            · rw [if_pos hk2, if_pos (by omega)]
            · rw [if_neg hk2, if_neg (by omega)])
  refine r_al0 (q := 1) C dX9_keepsFrom_0 rfl ?_
  refine r_getI (q := 4) C f_X9_23 dX9_keepsFrom_1 rfl rfl (by assumption) (by omega) ?_
  rw [hH.1]
  refine r_bipush (q := 6) C dX9_keepsFrom_4 (by decide) rfl ?_
  refine r_icne (q := 56) (q2 := 9) C (by omega) (by omega) dX9_keepsFrom_6 (by decide) rfl (fun br6 => ?_) (fun br6 => ?_)
  · exact tl σ none Lh.length (fun _ _ _ => rfl) (fun _ _ => rfl) hH.1 (by rw [if_neg (by omega)]) (by rw [if_neg (by omega)])
  · refine r_iconst (q := 10) C dX9_keepsFrom_9 rfl ?_
    refine r_is2 (q := 11) C dX9_keepsFrom_10 rfl (by decide) ?_
    exact lp _ σ 1 (Nat.lt_succ_self _) (by omega) (by omega) (fun _ _ => rfl) (fun r hr x hx => by rw [if_neg (by omega)])
set_option maxRecDepth 20000 in
set_option maxHeartbeats 8000000 in
theorem c_X9_keeps {T : oT} {σ : oM} {mC : Nat} (hM : oMm T mC) {Lh : List (Nat → Int)} (hH : oMH σ mC Lh) (h7 : σ mC 7 = 0 ∨ σ mC 7 = 1) : MS yX9_keeps cX9_keeps 1 none 2 0 0 46 [og mC] T σ (oPv (fun σ2 => oMk σ σ2 mC (keptL (σ mC 7) Lh (σ (mC + 1)))) T) := by
  have hMc := hM
  obtain ⟨hM0, hMr0, hMr1, hMr2, hMr3, hMr8, hMr9, hMr10, hMr11, hMr13, hMr14, hMr15, hMr16, hMr17, hMr18, hMr19, hMr20, hMk1, hMk2, hMk3, hMk4, hMk5, hMk6, hMk7, hMk8, hMk9, hMk10, hMk11, hMk12, hMk13, hMk14, hMk15, hMk16, hMT⟩ := hMc
  refine o_met (by decide +kernel) (Nat.le_of_ble_eq_true rfl) (fun p l ee s m args below meth c G b C hr hn => ?_)
  have C : oCx p s m args meth c G b RX9 cX9_keeps 1 := C
  show oW p l ee ({ frames := 2, cells := 0, slots := 0, locals := 46 } : Room) s m args below meth c G b 1 0 0 (MQ below (o_Qc G b (oPv (fun σ2 => oMk σ σ2 mC (keptL (σ mC 7) Lh (σ (mC + 1)))) T)) args s 0 0 (fun q => b ≤ q)) T σ 0 [some (og mC)] []
  refine r_al0 (q := 1) C dX9_keeps_0 rfl ?_
  refine r_getI (q := 4) C f_X9_34 dX9_keeps_1 rfl rfl (by assumption) (by omega) ?_
  refine r_ifne (q := 19) (q2 := 7) C (by omega) dX9_keeps_4 (by decide) rfl (fun br4 => ?_) (fun br4 => ?_)
  · exact r_vret C hr dX9_keeps_19 (by decide) (by decide) ⟨rfl, rfl, by rw [keptL, if_neg br4]; exact oMk_rf hH⟩
  · refine r_al0 (q := 8) C dX9_keeps_7 rfl ?_
    refine r_al0 (q := 9) C dX9_keeps_8 rfl ?_
    refine r_al0 (q := 10) C dX9_keeps_9 rfl ?_
    refine r_getR (q := 13) C f_X9_9 dX9_keeps_10 rfl rfl (by assumption) (by assumption) (by omega) ?_
    refine r_callVs (q := 16) C (c_X9_keepsFrom (aC := mC + 1) hM hH (by assumption) (by omega) (by omega) (by omega)) m_X9_101 (by assumption) (by omega) dX9_keeps_13 rfl rfl (by decide) (by decide) (Nat.le_of_ble_eq_true rfl) (fun z2 σ2 hσ2 => ?_)
    refine r_putI (q := 19) C fp_X9_23 dX9_keeps_16 rfl rfl (by assumption) (by omega) ?_
    refine r_vret C hr dX9_keeps_19 (by decide) (by decide) ?_
    obtain ⟨rfl, g1, g2, g3⟩ := hσ2
    exact ⟨rfl, rfl, by rw [keptL, if_pos (by omega)]; exact ⟨oMH_fr g1 (by rw [o_up_at]; exact g1.1.symm) (o_up_ne (by omega)), fun x x1 x2 => by rw [o_up_ne x1]; exact g2 x x1 x2, fun k hk => by rw [o_up_nj (Or.inr hk)]; exact g3 k hk⟩⟩
set_option maxRecDepth 20000 in
set_option maxHeartbeats 8000000 in
theorem c_X9_refuses {T : oT} {σ : oM} {mC : Nat} (hM : oMm T mC) {z : Int} : MS yX9_refuses cX9_refuses 2 (some FieldType.int) 0 0 0 0 [og mC, oi z] T σ (oPs (fun zx σ2 => zx = -5 ∧ σ2 = o_up σ mC 5 z) T) := by
  have hMc := hM
  obtain ⟨hM0, hMr0, hMr1, hMr2, hMr3, hMr8, hMr9, hMr10, hMr11, hMr13, hMr14, hMr15, hMr16, hMr17, hMr18, hMr19, hMr20, hMk1, hMk2, hMk3, hMk4, hMk5, hMk6, hMk7, hMk8, hMk9, hMk10, hMk11, hMk12, hMk13, hMk14, hMk15, hMk16, hMT⟩ := hMc
  refine o_met (by decide +kernel) (Nat.le_of_ble_eq_true rfl) (fun p l ee s m args below meth c G b C hr hn => ?_)
  have C : oCx p s m args meth c G b RX9 cX9_refuses 2 := C
  show oW p l ee ({ frames := 0, cells := 0, slots := 0, locals := 0 } : Room) s m args below meth c G b 2 0 0 (MQ below (o_Qc G b (oPs (fun zx σ2 => zx = -5 ∧ σ2 = o_up σ mC 5 z) T)) args s 0 0 (fun q => b ≤ q)) T σ 0 [some (og mC), some (oi z)] []
  refine r_al0 (q := 1) C dX9_refuses_0 rfl ?_
  refine r_il1 (q := 2) C dX9_refuses_1 rfl ?_
  refine r_putI (q := 5) C fp_X9_27 dX9_refuses_2 rfl rfl (by assumption) (by omega) ?_
  refine r_bipush (q := 7) C dX9_refuses_5 (by decide) rfl ?_
  exact r_iret C hr dX9_refuses_7 (by decide) (by decide) ⟨_, rfl, rfl, rfl, rfl⟩
