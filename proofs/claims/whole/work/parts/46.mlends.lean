/-! new arrays; the reference: loans -/
section ON
variable {p : Program} {l : Launch} {e : Env} {R : Room} {s : State} {m : MethodId} {args : Array Value} {below : List Frame} {meth : Method} {c : Code} {G : oG} {b : Nat} {own : String} {cc : ByteArray} {nL k n pc q : Nat} {Q : State → Prop} {T : oT} {σ : oM} {ls : List (Option oV)} {st : List oV}
theorem r_newI (C : oCx p s m args meth c G b own cc nL) {N : Nat} {z : Int} (hd : decode cc pc = .ok (.newarray .int, 2)) (hq : pc + 2 = q) (hN : N ≤ 100000) (hz : z = (N : Int)) (hr : k + 1 ≤ R.cells ∧ n + N ≤ R.slots)
    (kk : oW p l e R s m args below meth c G b nL (k + 1) (n + N) Q (o_new T (10, N)) (o_new0 σ T.1) q ls (og T.1 :: st)) : oW p l e R s m args below meth c G b nL k n Q T σ pc ls (oi z :: st) := by
  intro H locs la hW hS hl
  subst hq
  subst hz
  have hKa := C.2.2.2.2.2.1.1.2 0 (G.1.2 10, .int) rfl
  refine va_newaK (atype := .int) C.1 C.2.1 (C.2.2.2.2.1 _ (o_t1 96 rfl rfl)) rfl hd rfl ?_ (o_clamp (by omega)) (show N * 4 ≤ 536870912 by omega) hr.1 hr.2 hW.1 (fun H1 cA f1 f2 f3 f4 f5 => ?_)
  · rw [o_lit0.symm, o_ltI ⟨by omega, by omega⟩ ⟨by omega, by omega⟩]
    omega
  · have hcA : cA = G.1.2 10 := Option.some.inj (f5.symm.trans hKa.2)
    have hW1 : o_W G b (o_new T (10, N)) (o_new0 σ T.1) H1 := by
      refine o_W_new hW (by rw [f2, hW.1]) (fun x hx => f3 x (by rw [← hW.1]; exact hx)) ?_
      show H1[b + T.1]? = _
      rw [f1, hcA]
      rfl
    exact kk H1 locs la hW1 ⟨Nat.le_trans hS.1 (by rw [f2, hW.1]; omega), fun x h1 h2 => (f3 x (by have := hS.1; rw [hW.1] at this; omega)).trans (hS.2.1 x h1 h2), hS.2.2⟩ hl
end ON
/-- T2 is T with new cells -/
def oExt (T T2 : oT) : Prop := T.1 ≤ T2.1 ∧ ∀ x, x < T.1 → T2.2.1 x = T.2.1 x ∧ T2.2.2 x = T.2.2 x
theorem oExt_rf {T : oT} : oExt T T := ⟨Nat.le_refl _, fun _ _ => ⟨rfl, rfl⟩⟩
theorem oExt_tr {T T1 T2 : oT} (h1 : oExt T T1) (h2 : oExt T1 T2) : oExt T T2 := ⟨Nat.le_trans h1.1 h2.1, fun x hx => ⟨(h2.2 x (Nat.lt_of_lt_of_le hx h1.1)).1.trans (h1.2 x hx).1, (h2.2 x (Nat.lt_of_lt_of_le hx h1.1)).2.trans (h1.2 x hx).2⟩⟩
theorem oExt_new {T : oT} {kd : Nat × Nat} : oExt T (o_new T kd) := ⟨Nat.le_succ _, fun x hx => ⟨if_neg (by omega), if_neg (by omega)⟩⟩
theorem oMm_ext {T T2 : oT} {mC : Nat} (h : oMm T mC) (hx : oExt T T2) : oMm T2 mC := by
  obtain ⟨hM0, hMr0, hMr1, hMr2, hMr3, hMr8, hMr9, hMr10, hMr11, hMr13, hMr14, hMr15, hMr16, hMr17, hMr18, hMr19, hMr20, hMk1, hMk2, hMk3, hMk4, hMk5, hMk6, hMk7, hMk8, hMk9, hMk10, hMk11, hMk12, hMk13, hMk14, hMk15, hMk16, hMT⟩ := h
  have hsh : ∀ x, x < mC + 17 → T2.2.1 x = T.2.1 x ∧ T2.2.2 x = T.2.2 x := fun x h => hx.2 x (Nat.lt_of_lt_of_le h hMT)
  refine ⟨by rw [(hsh mC (by omega)).1]; exact hM0, by rw [(hsh mC (by omega)).2]; exact hMr0, by rw [(hsh mC (by omega)).2]; exact hMr1, by rw [(hsh mC (by omega)).2]; exact hMr2, by rw [(hsh mC (by omega)).2]; exact hMr3, by rw [(hsh mC (by omega)).2]; exact hMr8, by rw [(hsh mC (by omega)).2]; exact hMr9, by rw [(hsh mC (by omega)).2]; exact hMr10, by rw [(hsh mC (by omega)).2]; exact hMr11, by rw [(hsh mC (by omega)).2]; exact hMr13, by rw [(hsh mC (by omega)).2]; exact hMr14, by rw [(hsh mC (by omega)).2]; exact hMr15, by rw [(hsh mC (by omega)).2]; exact hMr16, by rw [(hsh mC (by omega)).2]; exact hMr17, by rw [(hsh mC (by omega)).2]; exact hMr18, by rw [(hsh mC (by omega)).2]; exact hMr19, by rw [(hsh mC (by omega)).2]; exact hMr20, by rw [(hsh (mC + 1) (by omega)).1]; exact hMk1, by rw [(hsh (mC + 2) (by omega)).1]; exact hMk2, by rw [(hsh (mC + 3) (by omega)).1]; exact hMk3, by rw [(hsh (mC + 4) (by omega)).1]; exact hMk4, by rw [(hsh (mC + 5) (by omega)).1]; exact hMk5, by rw [(hsh (mC + 6) (by omega)).1]; exact hMk6, by rw [(hsh (mC + 7) (by omega)).1]; exact hMk7, by rw [(hsh (mC + 8) (by omega)).1]; exact hMk8, by rw [(hsh (mC + 9) (by omega)).1]; exact hMk9, by rw [(hsh (mC + 10) (by omega)).1]; exact hMk10, by rw [(hsh (mC + 11) (by omega)).1]; exact hMk11, by rw [(hsh (mC + 12) (by omega)).1]; exact hMk12, by rw [(hsh (mC + 13) (by omega)).1]; exact hMk13, by rw [(hsh (mC + 14) (by omega)).1]; exact hMk14, by rw [(hsh (mC + 15) (by omega)).1]; exact hMk15, by rw [(hsh (mC + 16) (by omega)).1]; exact hMk16, Nat.le_trans hMT hx.1⟩
/-- now A, history Lh, the latest reason rf, all else as it was, but for new cells -/
def oMe (T T2 : oT) (σ σ2 : oM) (mC : Nat) (A : Nat → Int) (Lh : List (Nat → Int)) (rf : Int) : Prop := oExt T T2 ∧ σ2 (mC + 1) = A ∧ oMH σ2 mC Lh ∧ (∀ x, x < T.1 → x ≠ mC → x ≠ mC + 1 → x ≠ mC + 4 → σ2 x = σ x) ∧ (∀ k, k ≠ 4 → k ≠ 5 → σ2 mC k = σ mC k) ∧ σ2 mC 5 = rf
theorem oMe_of {T : oT} {σ σ2 : oM} {mC : Nat} {A : Nat → Int} {Lh : List (Nat → Int)} {rf : Int} (h : oMc σ σ2 mC A Lh rf) : oMe T T σ σ2 mC A Lh rf := ⟨oExt_rf, h.1, h.2.1, fun x _ x1 x2 x3 => h.2.2.1 x x1 x2 x3, h.2.2.2.1, h.2.2.2.2⟩
def rwF (bo ex ix cx du : Int) : Nat → Int := fun j => if j = 0 then bo else if j = 1 then ex else if j = 2 then ix else if j = 3 then cx else if j = 4 then cx else if j = 5 then du else 0
/-- kx numbers of the loan set -/
def lendG (A : Nat → Int) (lN kx : Nat) (r : Nat → Int) : Nat → Int := fun x => if x = 1 then A 1 + 1 else if 17 + 8 * lN ≤ x ∧ x < 17 + 8 * lN + kx then r (x - (17 + 8 * lN)) else A x
theorem lendG_0 {A r : Nat → Int} {lN : Nat} : updF A 1 (A 1 + 1) = lendG A lN 0 r := by
  funext x
  unfold lendG
  by_cases h : x = 1
  · rw [if_pos h, h, updF_at]
  · rw [updF_ne h, if_neg h, if_neg (by omega)]
theorem lendG_s {A r : Nat → Int} {lN kx : Nat} : updF (lendG A lN kx r) (17 + 8 * lN + kx) (r kx) = lendG A lN (kx + 1) r := by
  funext x
  by_cases h : x = 17 + 8 * lN + kx
  · rw [h, updF_at]
    unfold lendG
    rw [if_neg (by omega), if_pos (by omega), show 17 + 8 * lN + kx - (17 + 8 * lN) = kx by omega]
  · rw [updF_ne h]
    unfold lendG
    by_cases h2 : 17 + 8 * lN ≤ x ∧ x < 17 + 8 * lN + kx
    · rw [if_pos h2, if_pos (show 17 + 8 * lN ≤ x ∧ x < 17 + 8 * lN + (kx + 1) by omega)]
    · rw [if_neg h2, if_neg (show ¬ (17 + 8 * lN ≤ x ∧ x < 17 + 8 * lN + (kx + 1)) by omega)]
theorem lendG_ne {A r : Nat → Int} {lN kx x : Nat} (h0 : x ≠ 1) (h : x < 17 + 8 * lN ∨ 17 + 8 * lN + kx ≤ x) : lendG A lN kx r x = A x := by
  unfold lendG
  rw [if_neg h0, if_neg (by omega)]
theorem lendG_e {A : Nat → Int} {lN eN iN : Nat} {bo cx dx : Int} (hl : lN < 20) : updF (lendG A lN 8 (rwF bo (eN : Int) (iN : Int) cx (A 2 + dx))) (181 + 813 * eN + 3 * iN) (A (181 + 813 * eN + 3 * iN) + cx) = lendA A lN eN iN bo cx dx := by
  funext x
  by_cases h : x = 181 + 813 * eN + 3 * iN
  · rw [h, updF_at]
    exact (lendA_o hl).symm
  · rw [updF_ne h]
    unfold lendA lendG
    by_cases h1 : x = 1
    · rw [if_pos h1, if_pos h1]
    · rw [if_neg h1, if_neg h1]
      by_cases h2 : 17 + 8 * lN ≤ x ∧ x < 17 + 8 * lN + 8
      · obtain ⟨kx, hk, rfl⟩ : ∃ kx, kx < 8 ∧ x = 17 + 8 * lN + kx := ⟨x - (17 + 8 * lN), by omega, by omega⟩
        rw [if_pos h2, show 17 + 8 * lN + kx - (17 + 8 * lN) = kx by omega]
        unfold rwF
        rcases (show kx = 0 ∨ kx = 1 ∨ kx = 2 ∨ kx = 3 ∨ kx = 4 ∨ kx = 5 ∨ kx = 6 ∨ kx = 7 by omega) with rfl | rfl | rfl | rfl | rfl | rfl | rfl | rfl
        · rw [if_pos rfl, if_pos (by omega)]
        · rw [if_neg (by decide), if_pos rfl, if_neg (by omega), if_pos (by omega)]
        · rw [if_neg (by decide), if_neg (by decide), if_pos rfl, if_neg (by omega), if_neg (by omega), if_pos (by omega)]
        · rw [if_neg (by decide), if_neg (by decide), if_neg (by decide), if_pos rfl, if_neg (by omega), if_neg (by omega), if_neg (by omega), if_pos (by omega)]
        · rw [if_neg (by decide), if_neg (by decide), if_neg (by decide), if_neg (by decide), if_pos rfl, if_neg (by omega), if_neg (by omega), if_neg (by omega), if_neg (by omega), if_pos (by omega)]
        · rw [if_neg (by decide), if_neg (by decide), if_neg (by decide), if_neg (by decide), if_neg (by decide), if_pos rfl, if_neg (by omega), if_neg (by omega), if_neg (by omega), if_neg (by omega), if_neg (by omega), if_pos (by omega)]
        · rw [if_neg (by decide), if_neg (by decide), if_neg (by decide), if_neg (by decide), if_neg (by decide), if_neg (by decide), if_neg (by omega), if_neg (by omega), if_neg (by omega), if_neg (by omega), if_neg (by omega), if_neg (by omega), if_pos (by omega)]
        · rw [if_neg (by decide), if_neg (by decide), if_neg (by decide), if_neg (by decide), if_neg (by decide), if_neg (by decide), if_neg (by omega), if_neg (by omega), if_neg (by omega), if_neg (by omega), if_neg (by omega), if_neg (by omega), if_neg (by omega), if_pos (by omega)]
      · rw [if_neg h2, if_neg (by omega), if_neg (by omega), if_neg (by omega), if_neg (by omega), if_neg (by omega), if_neg (by omega), if_neg (by omega), if_neg (by omega), if_neg h]
set_option maxRecDepth 20000 in
set_option maxHeartbeats 8000000 in
theorem c_X9_lends {T : oT} {σ : oM} {mC : Nat} (hM : oMm T mC) {Bd : Int} (hI : oI Bd (σ (mC + 1))) {eN iN : Nat} {bo cx dx : Int} (heN : eN < 6) (hiN : iN < 6) {lN : Nat} (hlN : lN = nLn (σ (mC + 1))) (hl : lN < 20) : MS yX9_lends cX9_lends 9 (some FieldType.int) 1 1 8 21 [og mC, oi bo, oi ((eN : Nat) : Int), oi ((iN : Nat) : Int), oi cx, oi dx] T σ (oPa (fun zx T2 σ2 => zx = (lN : Int) ∧ oExt T T2 ∧ σ2 (mC + 1) = lendA (σ (mC + 1)) lN eN iN bo cx dx ∧ ∀ x, x < T.1 → x ≠ mC + 1 → σ2 x = σ x)) := by
  have hMc := hM
  obtain ⟨hM0, hMr0, hMr1, hMr2, hMr3, hMr8, hMr9, hMr10, hMr11, hMr13, hMr14, hMr15, hMr16, hMr17, hMr18, hMr19, hMr20, hMk1, hMk2, hMk3, hMk4, hMk5, hMk6, hMk7, hMk8, hMk9, hMk10, hMk11, hMk12, hMk13, hMk14, hMk15, hMk16, hMT⟩ := hMc
  have hI0 := hI.2.1
  have hI1 := hI.2.2.1
  have hI2 := hI.2.2.2.1
  have hIn := oI_n hI
  have hIB := hI.1
  refine o_met (by decide +kernel) (Nat.le_of_ble_eq_true rfl) (fun p l ee s m args below meth c G b C hr hn => ?_)
  have C : oCx p s m args meth c G b RX9 cX9_lends 9 := C
  show oW p l ee ({ frames := 1, cells := 1, slots := 8, locals := 21 } : Room) s m args below meth c G b 9 0 0 (MQ below (o_Qc G b (oPa (fun zx T2 σ2 => zx = (lN : Int) ∧ oExt T T2 ∧ σ2 (mC + 1) = lendA (σ (mC + 1)) lN eN iN bo cx dx ∧ ∀ x, x < T.1 → x ≠ mC + 1 → σ2 x = σ x))) args s 1 8 (fun q => b ≤ q)) T σ 0 [some (og mC), some (oi bo), some (oi ((eN : Nat) : Int)), some (oi ((iN : Nat) : Int)), some (oi cx), some (oi dx), none, none, none] []
  refine r_al0 (q := 1) C dX9_lends_0 rfl ?_
  refine r_getR (q := 4) C f_X9_9 dX9_lends_1 rfl rfl (by assumption) (by assumption) (by omega) ?_
  refine r_iconst (q := 5) C dX9_lends_4 rfl ?_
  refine r_iald (q := 6) C (1) dX9_lends_5 rfl (by assumption) (by omega) (by omega) (by omega) (by decide) ?_
  rw [show σ (mC + 1) 1 = ((lN : Nat) : Int) by omega]
  refine r_is6 (q := 8) C dX9_lends_6 rfl (by decide) ?_
  refine r_al0 (q := 9) C dX9_lends_8 rfl ?_
  refine r_getR (q := 12) C f_X9_9 dX9_lends_9 rfl rfl (by assumption) (by assumption) (by omega) ?_
  refine r_iconst (q := 13) C dX9_lends_12 rfl ?_
  refine r_dup2 (q := 14) C dX9_lends_13 rfl ?_
  refine r_iald (q := 15) C (1) dX9_lends_14 rfl (by assumption) (by omega) (by omega) (by omega) (by decide) ?_
  refine r_iconst (q := 16) C dX9_lends_15 rfl ?_
  refine r_iadd (q := 17) C dX9_lends_16 rfl ?_
  refine r_iast (q := 18) C (1) dX9_lends_17 rfl (by assumption) (by omega) (by omega) (by omega) (by decide) ?_
  refine r_bipush (q := 20) C dX9_lends_18 (by decide) rfl ?_
  refine r_newI (q := 22) (N := 8) C dX9_lends_20 rfl (by decide) rfl ⟨by decide, by decide⟩ ?_
  obtain ⟨T2, hT2⟩ : ∃ T2, T2 = o_new T (10, 8) := ⟨_, rfl⟩
  rw [← hT2]
  have hM2 : oMm T2 mC := hT2 ▸ oMm_ext hM oExt_new
  obtain ⟨hN0, hNr0, hNr1, hNr2, hNr3, hNr8, hNr9, hNr10, hNr11, hNr13, hNr14, hNr15, hNr16, hNr17, hNr18, hNr19, hNr20, hNk1, hNk2, hNk3, hNk4, hNk5, hNk6, hNk7, hNk8, hNk9, hNk10, hNk11, hNk12, hNk13, hNk14, hNk15, hNk16, hNT⟩ := hM2
  have hNa : T2.2.1 T.1 = (10, 8) := by
    rw [hT2]
    exact if_pos rfl
  have hNl : T.1 < T2.1 := by
    rw [hT2]
    exact Nat.lt_succ_self _
  refine r_dup (q := 23) C dX9_lends_22 rfl ?_
  refine r_iconst (q := 24) C dX9_lends_23 rfl ?_
  refine r_il1 (q := 25) C dX9_lends_24 rfl ?_
  refine r_iast (q := 26) C (0) dX9_lends_25 rfl (by assumption) (by omega) (by omega) (by omega) (by decide) ?_
  refine r_dup (q := 27) C dX9_lends_26 rfl ?_
  refine r_iconst (q := 28) C dX9_lends_27 rfl ?_
  refine r_il2 (q := 29) C dX9_lends_28 rfl ?_
  refine r_iast (q := 30) C (1) dX9_lends_29 rfl (by assumption) (by omega) (by omega) (by omega) (by decide) ?_
  refine r_dup (q := 31) C dX9_lends_30 rfl ?_
  refine r_iconst (q := 32) C dX9_lends_31 rfl ?_
  refine r_il3 (q := 33) C dX9_lends_32 rfl ?_
  refine r_iast (q := 34) C (2) dX9_lends_33 rfl (by assumption) (by omega) (by omega) (by omega) (by decide) ?_
  refine r_dup (q := 35) C dX9_lends_34 rfl ?_
  refine r_iconst (q := 36) C dX9_lends_35 rfl ?_
  refine r_il4 (q := 38) C dX9_lends_36 rfl ?_
  refine r_iast (q := 39) C (3) dX9_lends_38 rfl (by assumption) (by omega) (by omega) (by omega) (by decide) ?_
  refine r_dup (q := 40) C dX9_lends_39 rfl ?_
  refine r_iconst (q := 41) C dX9_lends_40 rfl ?_
  refine r_il4 (q := 43) C dX9_lends_41 rfl ?_
  refine r_iast (q := 44) C (4) dX9_lends_43 rfl (by assumption) (by omega) (by omega) (by omega) (by decide) ?_
  refine r_dup (q := 45) C dX9_lends_44 rfl ?_
  refine r_iconst (q := 46) C dX9_lends_45 rfl ?_
  refine r_al0 (q := 47) C dX9_lends_46 rfl ?_
  refine r_getR (q := 50) C f_X9_9 dX9_lends_47 rfl rfl (by assumption) (by assumption) (by omega) ?_
  refine r_iconst (q := 51) C dX9_lends_50 rfl ?_
  refine r_iald (q := 52) C (2) dX9_lends_51 rfl (by assumption) (by omega) (by omega) (by omega) (by decide) ?_
  rw [o_up_ne (by omega), o_up_ne (by omega), o_up_ne (by omega), o_up_ne (by omega), o_up_ne (by omega), show o_new0 (o_up σ (mC + 1) 1 (σ (mC + 1) 1 + 1)) T.1 (mC + 1) = o_up σ (mC + 1) 1 (σ (mC + 1) 1 + 1) (mC + 1) from if_neg (by omega), o_up_nj (Or.inr (by decide))]
  refine r_il5 (q := 54) C dX9_lends_52 rfl ?_
  refine r_iadd (q := 55) C dX9_lends_54 rfl ?_
  refine r_iast (q := 56) C (5) dX9_lends_55 rfl (by assumption) (by omega) (by omega) (by omega) (by decide) ?_
  refine r_dup (q := 57) C dX9_lends_56 rfl ?_
  refine r_bipush (q := 59) C dX9_lends_57 (by decide) rfl ?_
  refine r_iconst (q := 60) C dX9_lends_59 rfl ?_
  refine r_iast (q := 61) C (6) dX9_lends_60 rfl (by assumption) (by omega) (by omega) (by omega) (by decide) ?_
  refine r_dup (q := 62) C dX9_lends_61 rfl ?_
  refine r_bipush (q := 64) C dX9_lends_62 (by decide) rfl ?_
  refine r_iconst (q := 65) C dX9_lends_64 rfl ?_
  refine r_iast (q := 66) C (7) dX9_lends_65 rfl (by assumption) (by omega) (by omega) (by omega) (by decide) ?_
  refine r_as7 (q := 68) C dX9_lends_66 rfl (by decide) ?_
  refine r_iconst (q := 69) C dX9_lends_68 rfl ?_
  refine r_is8 (q := 71) C dX9_lends_69 rfl (by decide) ?_
  generalize hσ4 : o_up (o_up (o_up (o_up (o_up (o_up (o_up (o_up (o_new0 (o_up σ (mC + 1) 1 (σ (mC + 1) 1 + 1)) T.1) T.1 0 bo) T.1 1 (eN : Int)) T.1 2 (iN : Int)) T.1 3 cx) T.1 4 cx) T.1 5 (σ (mC + 1) 2 + dx)) T.1 6 0) T.1 7 0 = σ4
  have h4a : ∀ x, x ≠ T.1 → σ4 x = o_up σ (mC + 1) 1 (σ (mC + 1) 1 + 1) x := fun x hx => by
    rw [← hσ4, o_up_ne hx, o_up_ne hx, o_up_ne hx, o_up_ne hx, o_up_ne hx, o_up_ne hx, o_up_ne hx, o_up_ne hx]
    exact if_neg hx
  have hr4 : ∀ j, j < 8 → σ4 T.1 j = (rwF bo (eN : Int) (iN : Int) cx (σ (mC + 1) 2 + dx)) j := fun j hj => by
    rw [← hσ4]
    unfold rwF
    rcases (show j = 0 ∨ j = 1 ∨ j = 2 ∨ j = 3 ∨ j = 4 ∨ j = 5 ∨ j = 6 ∨ j = 7 by omega) with rfl | rfl | rfl | rfl | rfl | rfl | rfl | rfl <;> simp [o_up]
  have h4 : ∀ x, x < T.1 → x ≠ mC + 1 → σ4 x = σ x := fun x x1 x2 => by rw [h4a x (by omega), o_up_ne x2]
  have h41 : σ4 (mC + 1) = updF (σ (mC + 1)) 1 (σ (mC + 1) 1 + 1) := by rw [h4a _ (by omega), o_upF]
  have lp : ∀ (n : Nat) (kx : Nat), 8 - kx < n → (kx ≤ 8) → oW p l ee ({ frames := 1, cells := 1, slots := 8, locals := 21 } : Room) s m args below meth c G b 9 1 8 (MQ below (o_Qc G b (oPa (fun zx T2 σ2 => zx = (lN : Int) ∧ oExt T T2 ∧ σ2 (mC + 1) = lendA (σ (mC + 1)) lN eN iN bo cx dx ∧ ∀ x, x < T.1 → x ≠ mC + 1 → σ2 x = σ x))) args s 1 8 (fun q => b ≤ q)) T2 (o_row σ4 (mC + 1) (lendG (σ (mC + 1)) lN kx (rwF bo (eN : Int) (iN : Int) cx (σ (mC + 1) 2 + dx)))) 71 [some (og mC), some (oi bo), some (oi ((eN : Nat) : Int)), some (oi ((iN : Nat) : Int)), some (oi cx), some (oi dx), some (oi ((lN : Nat) : Int)), some (og T.1), some (oi ((kx : Nat) : Int))] [] := by
    intro n
    induction n with
    | zero =>
      intro kx hms
      exact absurd hms (Nat.not_lt_zero _)
    | succ n ih =>
      intro kx hms k1
      refine r_il8 (q := 73) C dX9_lends_71 rfl ?_
      refine r_bipush (q := 75) C dX9_lends_73 (by decide) rfl ?_
      refine r_icge (q := 101) (q2 := 78) C (by omega) (by omega) dX9_lends_75 (by decide) rfl (fun br75 => ?_) (fun br75 => ?_)
      · rw [show kx = 8 by omega]
        refine r_al0 (q := 102) C dX9_lends_101 rfl ?_
        refine r_getR (q := 105) C f_X9_9 dX9_lends_102 rfl rfl (by assumption) (by assumption) (by omega) ?_
        refine r_il2 (q := 106) C dX9_lends_105 rfl ?_
        refine r_iconst (q := 107) C dX9_lends_106 rfl ?_
        refine r_iconst (q := 108) C dX9_lends_107 rfl ?_
        refine r_il3 (q := 109) C dX9_lends_108 rfl ?_
        refine r_imul (q := 110) C dX9_lends_109 rfl ?_
        refine r_iadd (q := 111) C dX9_lends_110 rfl ?_
        refine r_iconst (q := 112) C dX9_lends_111 rfl ?_
        refine r_iadd (q := 113) C dX9_lends_112 rfl ?_
        refine r_callS1 (q := 116) C (c_X9_at) m_X9_105 dX9_lends_113 rfl rfl (by decide) (by decide) (Nat.le_of_ble_eq_true rfl) ?_
        refine r_dup2 (q := 117) C dX9_lends_116 rfl ?_
        refine r_iald (q := 118) C ((181 + 813 * eN + 3 * iN)) dX9_lends_117 rfl (by assumption) (by omega) (by omega) (by omega) (by decide) ?_
        rw [o_row_at, lendG_ne (by omega) (by omega)]
        refine r_il4 (q := 120) C dX9_lends_118 rfl ?_
        refine r_iadd (q := 121) C dX9_lends_120 rfl ?_
        refine r_iast (q := 122) C ((181 + 813 * eN + 3 * iN)) dX9_lends_121 rfl (by assumption) (by omega) (by omega) (by omega) (by decide) ?_
        rw [o_row_up, lendG_e (by omega)]
        refine r_il6 (q := 124) C dX9_lends_122 rfl ?_
        exact r_iret C hr dX9_lends_124 (by decide) (by decide) ⟨_, rfl, rfl, hT2 ▸ oExt_new, by rw [o_row_at], fun x x1 x2 => by rw [o_row_ne x2, h4 x (by omega) x2]⟩
      · refine r_al0 (q := 79) C dX9_lends_78 rfl ?_
        refine r_getR (q := 82) C f_X9_9 dX9_lends_79 rfl rfl (by assumption) (by assumption) (by omega) ?_
        refine r_il6 (q := 84) C dX9_lends_82 rfl ?_
        refine r_il8 (q := 86) C dX9_lends_84 rfl ?_
        refine r_callS1 (q := 89) C (c_X9_loanAt) m_X9_192 dX9_lends_86 rfl rfl (by decide) (by decide) (Nat.le_of_ble_eq_true rfl) ?_
        refine r_al7 (q := 91) C dX9_lends_89 rfl ?_
        refine r_il8 (q := 93) C dX9_lends_91 rfl ?_
        refine r_iald (q := 94) C (kx) dX9_lends_93 rfl (by assumption) (by omega) (by omega) (by omega) (by decide) ?_
        rw [o_row_ne (by omega), hr4 kx (by omega)]
        refine r_iast (q := 95) C ((17 + 8 * lN + kx)) dX9_lends_94 rfl (by assumption) (by omega) (by omega) (by omega) (by decide) ?_
        rw [o_row_up, lendG_s]
        refine r_iinc8 (q := 98) C dX9_lends_95 rfl (by decide) ?_
        refine r_goto (q := 71) C dX9_lends_98 (by decide) ?_
        exact ih (kx + 1) (by omega) (by omega)
  have h0 := lp _ 0 (Nat.lt_succ_self _) (by omega)
  rw [← lendG_0, show o_row σ4 (mC + 1) (updF (σ (mC + 1)) 1 (σ (mC + 1) 1 + 1)) = σ4 by rw [← h41]; exact o_row_self] at h0
  exact h0
set_option maxRecDepth 20000 in
set_option maxHeartbeats 8000000 in
theorem c_X9_lend {T : oT} {σ : oM} {mC : Nat} (hM : oMm T mC) {Bd : Int} (hI : oI Bd (σ (mC + 1))) {Lh : List (Nat → Int)} (hH : oMH σ mC Lh) (h7 : σ mC 7 = 0 ∨ σ mC 7 = 1) {z v w u d : Int} (hz : o_r z) (hv : o_r v) (hw : o_r w) (hu : o_r u) (hdd : o_r d) : MS yX9_lend cX9_lend 6 (some FieldType.int) 3 1 8 66 [og mC, oi z, oi v, oi w, oi u, oi d] T σ (oPa (fun zx T2 σ2 => zx = (fLend (σ (mC + 1)) (σ mC 5) z v w u d).1 ∧ oMe T T2 σ σ2 mC (fLend (σ (mC + 1)) (σ mC 5) z v w u d).2.1 (settleL (fLend (σ (mC + 1)) (σ mC 5) z v w u d).1 (σ mC 7) Lh (σ (mC + 1))) (fLend (σ (mC + 1)) (σ mC 5) z v w u d).2.2)) := by
  have hMc := hM
  obtain ⟨hM0, hMr0, hMr1, hMr2, hMr3, hMr8, hMr9, hMr10, hMr11, hMr13, hMr14, hMr15, hMr16, hMr17, hMr18, hMr19, hMr20, hMk1, hMk2, hMk3, hMk4, hMk5, hMk6, hMk7, hMk8, hMk9, hMk10, hMk11, hMk12, hMk13, hMk14, hMk15, hMk16, hMT⟩ := hMc
  have hI0 := hI.2.1
  have hI1 := hI.2.2.1
  have hI2 := hI.2.2.2.1
  have hIn := oI_n hI
  have hIB := hI.1
  refine o_met (by decide +kernel) (Nat.le_of_ble_eq_true rfl) (fun p l ee s m args below meth c G b C hr hn => ?_)
  have C : oCx p s m args meth c G b RX9 cX9_lend 6 := C
  show oW p l ee ({ frames := 3, cells := 1, slots := 8, locals := 66 } : Room) s m args below meth c G b 6 0 0 (MQ below (o_Qc G b (oPa (fun zx T2 σ2 => zx = (fLend (σ (mC + 1)) (σ mC 5) z v w u d).1 ∧ oMe T T2 σ σ2 mC (fLend (σ (mC + 1)) (σ mC 5) z v w u d).2.1 (settleL (fLend (σ (mC + 1)) (σ mC 5) z v w u d).1 (σ mC 7) Lh (σ (mC + 1))) (fLend (σ (mC + 1)) (σ mC 5) z v w u d).2.2))) args s 1 8 (fun q => b ≤ q)) T σ 0 [some (og mC), some (oi z), some (oi v), some (oi w), some (oi u), some (oi d)] []
  refine r_il1 (q := 1) C dX9_lend_0 rfl ?_
  refine r_iconst (q := 2) C dX9_lend_1 rfl ?_
  refine r_iconst (q := 3) C dX9_lend_2 rfl ?_
  refine r_callSb (q := 6) C (c_X9_in hz (by omega) (by omega)) m_X9_108 dX9_lend_3 rfl rfl (by decide) (by decide) (Nat.le_of_ble_eq_true rfl) (fun br3 => ?_) (fun br3 => ?_)
  · refine r_ifeq_f (q := 24) (q2 := 9) C (by decide) (by omega) dX9_lend_6 (by decide) rfl ?_
    refine r_al0 (q := 10) C dX9_lend_9 rfl ?_
    refine r_il2 (q := 11) C dX9_lend_10 rfl ?_
    refine r_callVb (q := 14) C (c_X9_isEdition hM hI (by omega)) m_X9_112 (by assumption) (by omega) dX9_lend_11 rfl rfl (by decide) (by decide) (Nat.le_of_ble_eq_true rfl) (fun br11 => ?_) (fun br11 => ?_)
    · refine r_ifeq_f (q := 24) (q2 := 17) C (by decide) (by omega) dX9_lend_14 (by decide) rfl ?_
      refine r_il3 (q := 18) C dX9_lend_17 rfl ?_
      refine r_callSb (q := 21) C (c_X9_isInstrument (by omega)) m_X9_186 dX9_lend_18 rfl rfl (by decide) (by decide) (Nat.le_of_ble_eq_true rfl) (fun br18 => ?_) (fun br18 => ?_)
      · refine r_ifne_t (q := 26) C (by decide) (by omega) dX9_lend_21 (by decide) ?_
        obtain ⟨eN, rfl, heN, heN6⟩ := isEd_n hI br11
        have hIE := oI_b hI heN
        obtain ⟨iN, rfl⟩ : ∃ iN : Nat, w = (iN : Int) := ⟨w.toNat, by omega⟩
        have hs := fLend.eq_1 (σ (mC + 1)) (σ mC 5) z (eN : Int) (iN : Int) u d
        rw [if_pos ⟨br3, br11, br18⟩] at hs
        simp only [Int.toNat_natCast] at hs
        have hif : o_r (inF (σ (mC + 1)) eN iN) := by
          have q := hIE.1.2.2.2.1 iN (by omega)
          unfold inF
          omega
        refine r_il4 (q := 28) C dX9_lend_26 rfl ?_
        refine r_iconst (q := 29) C dX9_lend_28 rfl ?_
        refine r_bipush (q := 31) C dX9_lend_29 (by decide) rfl ?_
        refine r_callSb (q := 34) C (c_X9_in hu (by omega) (by omega)) m_X9_108 dX9_lend_31 rfl rfl (by decide) (by decide) (Nat.le_of_ble_eq_true rfl) (fun br31 => ?_) (fun br31 => ?_)
        · refine r_ifeq_f (q := 49) (q2 := 37) C (by decide) (by omega) dX9_lend_34 (by decide) rfl ?_
          refine r_il5 (q := 39) C dX9_lend_37 rfl ?_
          refine r_iconst (q := 40) C dX9_lend_39 rfl ?_
          refine r_sipush (q := 43) C dX9_lend_40 (by decide) rfl ?_
          refine r_callSb (q := 46) C (c_X9_in hdd (by omega) (by omega)) m_X9_108 dX9_lend_43 rfl rfl (by decide) (by decide) (Nat.le_of_ble_eq_true rfl) (fun br43 => ?_) (fun br43 => ?_)
          · refine r_ifne_t (q := 52) C (by decide) (by omega) dX9_lend_46 (by decide) ?_
            rw [if_pos ⟨br31, br43⟩] at hs
            refine r_al0 (q := 53) C dX9_lend_52 rfl ?_
            refine r_il2 (q := 54) C dX9_lend_53 rfl ?_
            refine r_il3 (q := 55) C dX9_lend_54 rfl ?_
            refine r_callV1 (q := 58) C (c_X9_inOf (eN := eN) (iN := iN) hM (by omega) (by omega)) m_X9_189 (by assumption) (by omega) dX9_lend_55 rfl rfl (by decide) (by decide) (Nat.le_of_ble_eq_true rfl) ?_
            refine r_il4 (q := 60) C dX9_lend_58 rfl ?_
            refine r_icge (q := 69) (q2 := 63) C (by omega) (by omega) dX9_lend_60 (by decide) rfl (fun br60 => ?_) (fun br60 => ?_)
            · rw [if_neg (by omega)] at hs
              refine r_al0 (q := 70) C dX9_lend_69 rfl ?_
              refine r_il1 (q := 71) C dX9_lend_70 rfl ?_
              refine r_callVb (q := 74) C (c_X9_owes hM hI hz) m_X9_198 (by assumption) (by omega) dX9_lend_71 rfl rfl (by decide) (by decide) (Nat.le_of_ble_eq_true rfl) (fun br71 => ?_) (fun br71 => ?_)
              · refine r_ifeq_f (q := 83) (q2 := 77) C (by decide) (by omega) dX9_lend_74 (by decide) rfl ?_
                refine r_al0 (q := 78) C dX9_lend_77 rfl ?_
                refine r_iconst (q := 79) C dX9_lend_78 rfl ?_
                refine r_callVs (q := 82) C (c_X9_refuses hM) m_X9_142 (by assumption) (by omega) dX9_lend_79 rfl rfl (by decide) (by decide) (Nat.le_of_ble_eq_true rfl) (fun z2 σ2 hσ2 => ?_)
                refine r_iret C hr dX9_lend_82 (by decide) (by decide) ?_
                obtain ⟨rfl, rfl⟩ := hσ2
                exact ⟨_, rfl, by rw [hs, if_pos br71], by rw [hs, if_pos br71, settle_n (by simp)]; exact oMe_of (oMc_re hH)⟩
              · refine r_ifeq_t (q := 83) C (by decide) (by omega) dX9_lend_74 (by decide) ?_
                rw [if_neg br71] at hs
                refine r_al0 (q := 84) C dX9_lend_83 rfl ?_
                refine r_getR (q := 87) C f_X9_9 dX9_lend_84 rfl rfl (by assumption) (by assumption) (by omega) ?_
                refine r_iconst (q := 88) C dX9_lend_87 rfl ?_
                refine r_iald (q := 89) C (1) dX9_lend_88 rfl (by assumption) (by omega) (by omega) (by omega) (by decide) ?_
                refine r_bipush (q := 91) C dX9_lend_89 (by decide) rfl ?_
                refine r_icne (q := 100) (q2 := 94) C (by omega) (by omega) dX9_lend_91 (by decide) rfl (fun br91 => ?_) (fun br91 => ?_)
                · rw [if_neg (by omega), show (σ (mC + 1) 1).toNat = nLn (σ (mC + 1)) from rfl] at hs
                  refine r_al0 (q := 101) C dX9_lend_100 rfl ?_
                  refine r_callVv (q := 104) C (c_X9_keeps hM hH h7) m_X9_129 (by assumption) (by omega) dX9_lend_101 rfl rfl (by decide) (by decide) (Nat.le_of_ble_eq_true rfl) (fun σ2 hσ2 => ?_)
                  have e1 := hσ2.2.1 (mC + 1) (by omega) (by omega)
                  refine r_al0 (q := 105) C dX9_lend_104 rfl ?_
                  refine r_il1 (q := 106) C dX9_lend_105 rfl ?_
                  refine r_il2 (q := 107) C dX9_lend_106 rfl ?_
                  refine r_il3 (q := 108) C dX9_lend_107 rfl ?_
                  refine r_il4 (q := 110) C dX9_lend_108 rfl ?_
                  refine r_il5 (q := 112) C dX9_lend_110 rfl ?_
                  refine r_callV (q := 115) C (c_X9_lends (eN := eN) (iN := iN) (bo := z) (cx := u) (dx := d) (lN := nLn (σ (mC + 1))) hM (by rw [e1]; exact hI) (by omega) (by omega) (by rw [e1]) (by omega)) m_X9_201 (by assumption) (by omega) dX9_lend_112 rfl rfl (by decide) (by decide) (Nat.le_of_ble_eq_true rfl) (fun r2 T3 σ3 hσ3 => ?_)
                  obtain ⟨zx, rfl, g1, g2, g3, g4⟩ := hσ3
                  subst g1
                  exact r_iret C hr dX9_lend_115 (by decide) (by decide) ⟨_, rfl, by rw [hs]; exact hIn.2.1, by rw [hs, settle_y (Or.inl (by show 0 ≤ σ (mC + 1) 1; omega))]; exact ⟨g2, by rw [g3, e1], oMH_fr hσ2.1 (congrFun (g4 mC (by omega) (by omega)) 4) (g4 (mC + 4) (by omega) (by omega)), fun x x1 x2 x3 x4 => by rw [g4 x x1 x3]; exact hσ2.2.1 x x2 x4, fun k k4 k5 => by rw [g4 mC (by omega) (by omega)]; exact hσ2.2.2 k k4, by rw [g4 mC (by omega) (by omega)]; exact hσ2.2.2 5 (by decide)⟩⟩
                · refine r_al0 (q := 95) C dX9_lend_94 rfl ?_
                  refine r_iconst (q := 96) C dX9_lend_95 rfl ?_
                  refine r_callVs (q := 99) C (c_X9_refuses hM) m_X9_142 (by assumption) (by omega) dX9_lend_96 rfl rfl (by decide) (by decide) (Nat.le_of_ble_eq_true rfl) (fun z2 σ2 hσ2 => ?_)
                  refine r_iret C hr dX9_lend_99 (by decide) (by decide) ?_
                  obtain ⟨rfl, rfl⟩ := hσ2
                  exact ⟨_, rfl, by rw [hs, if_pos (by omega)], by rw [hs, if_pos (by omega), settle_n (by simp)]; exact oMe_of (oMc_re hH)⟩
            · refine r_al0 (q := 64) C dX9_lend_63 rfl ?_
              refine r_iconst (q := 65) C dX9_lend_64 rfl ?_
              refine r_callVs (q := 68) C (c_X9_refuses hM) m_X9_142 (by assumption) (by omega) dX9_lend_65 rfl rfl (by decide) (by decide) (Nat.le_of_ble_eq_true rfl) (fun z2 σ2 hσ2 => ?_)
              refine r_iret C hr dX9_lend_68 (by decide) (by decide) ?_
              obtain ⟨rfl, rfl⟩ := hσ2
              exact ⟨_, rfl, by rw [hs, if_pos (by omega)], by rw [hs, if_pos (by omega), settle_n (by simp)]; exact oMe_of (oMc_re hH)⟩
          · refine r_ifne_f (q := 52) (q2 := 49) C (by decide) (by omega) dX9_lend_46 (by decide) rfl ?_
            refine r_bipush (q := 51) C dX9_lend_49 (by decide) rfl ?_
            exact r_iret C hr dX9_lend_51 (by decide) (by decide) ⟨_, rfl, by rw [hs, if_neg (fun hc => br43 hc.2)], by rw [hs, if_neg (fun hc => br43 hc.2)]; rw [settle_n (by simp)]; exact oMe_of (oMc_no hH)⟩
        · refine r_ifeq_t (q := 49) C (by decide) (by omega) dX9_lend_34 (by decide) ?_
          refine r_bipush (q := 51) C dX9_lend_49 (by decide) rfl ?_
          exact r_iret C hr dX9_lend_51 (by decide) (by decide) ⟨_, rfl, by rw [hs, if_neg (fun hc => br31 hc.1)], by rw [hs, if_neg (fun hc => br31 hc.1)]; rw [settle_n (by simp)]; exact oMe_of (oMc_no hH)⟩
      · refine r_ifne_f (q := 26) (q2 := 24) C (by decide) (by omega) dX9_lend_21 (by decide) rfl ?_
        refine r_iconst (q := 25) C dX9_lend_24 rfl ?_
        exact r_iret C hr dX9_lend_25 (by decide) (by decide) ⟨_, rfl, by rw [fLend, if_neg (fun hc => br18 hc.2.2)], by rw [fLend, if_neg (fun hc => br18 hc.2.2)]; rw [settle_n (by simp)]; exact oMe_of (oMc_no hH)⟩
    · refine r_ifeq_t (q := 24) C (by decide) (by omega) dX9_lend_14 (by decide) ?_
      refine r_iconst (q := 25) C dX9_lend_24 rfl ?_
      exact r_iret C hr dX9_lend_25 (by decide) (by decide) ⟨_, rfl, by rw [fLend, if_neg (fun hc => br11 hc.2.1)], by rw [fLend, if_neg (fun hc => br11 hc.2.1)]; rw [settle_n (by simp)]; exact oMe_of (oMc_no hH)⟩
  · refine r_ifeq_t (q := 24) C (by decide) (by omega) dX9_lend_6 (by decide) ?_
    refine r_iconst (q := 25) C dX9_lend_24 rfl ?_
    exact r_iret C hr dX9_lend_25 (by decide) (by decide) ⟨_, rfl, by rw [fLend, if_neg (fun hc => br3 hc.1)], by rw [fLend, if_neg (fun hc => br3 hc.1)]; rw [settle_n (by simp)]; exact oMe_of (oMc_no hH)⟩
