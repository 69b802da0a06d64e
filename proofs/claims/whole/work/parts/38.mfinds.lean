/-! the reference's comparison -/
def oRm (σ : oM) (mC : Nat) (Lr : List oRun) : Prop := σ mC 12 = (Lr.length : Int) ∧ ∀ (ix : Nat) (r : oRun), Lr[ix]? = some r → σ (mC + 5) ix = r.1 ∧ σ (mC + 6) ix = r.2.1 ∧ σ (mC + 7) ix = r.2.2.1 ∧ σ (mC + 8) ix = r.2.2.2
def oFd (σ σ2 : oM) (mC : Nat) (Lr : List oRun) : Prop := oRm σ2 mC Lr ∧ (∀ x, x ≠ mC → (x < mC + 5 ∨ mC + 9 ≤ x) → σ2 x = σ x) ∧ ∀ k, k ≠ 12 → σ2 mC k = σ mC k
theorem oFd_tr {σ σ1 σ2 : oM} {mC : Nat} {L1 L2 : List oRun} (h1 : oFd σ σ1 mC L1) (h2 : oFd σ1 σ2 mC L2) : oFd σ σ2 mC L2 := ⟨h2.1, fun x x1 x2 => (h2.2.1 x x1 x2).trans (h1.2.1 x x1 x2), fun k hk => (h2.2.2 k hk).trans (h1.2.2 k hk)⟩
theorem oRm_add {σ : oM} {mC : Nat} {Lr : List oRun} {kd bx tx lx : Int} (h : oRm σ mC Lr) : oFd σ (o_up (o_up (o_up (o_up (o_up σ (mC + 5) Lr.length kd) (mC + 6) Lr.length bx) (mC + 7) Lr.length tx) (mC + 8) Lr.length lx) mC 12 ((Lr.length : Int) + 1)) mC (Lr ++ [(kd, bx, tx, lx)]) := by
  refine ⟨⟨?_, fun ix r hr => ?_⟩, fun x x1 x2 => ?_, fun k hk => ?_⟩
  · rw [o_up_at, List.length_append]
    rfl
  · by_cases hx : ix < Lr.length
    · rw [List.getElem?_append_left hx] at hr
      rw [o_up_ne (by omega), o_up_ne (by omega), o_up_ne (by omega), o_up_ne (by omega), o_up_nj (Or.inr (by omega)), o_up_ne (by omega), o_up_ne (by omega), o_up_ne (by omega), o_up_nj (Or.inr (by omega)), o_up_ne (by omega), o_up_ne (by omega), o_up_ne (by omega), o_up_nj (Or.inr (by omega)), o_up_ne (by omega), o_up_ne (by omega), o_up_ne (by omega), o_up_nj (Or.inr (by omega)), o_up_ne (by omega), o_up_ne (by omega), o_up_ne (by omega)]
      exact h.2 ix r hr
    · rw [List.getElem?_append_right (by omega)] at hr
      have hk2 := (List.getElem?_eq_some_iff.mp hr).1
      rw [List.length_cons, List.length_nil] at hk2
      have hix : ix = Lr.length := by omega
      subst hix
      rw [Nat.sub_self] at hr
      cases hr
      rw [o_up_ne (by omega), o_up_ne (by omega), o_up_ne (by omega), o_up_ne (by omega), o_up_at, o_up_ne (by omega), o_up_ne (by omega), o_up_ne (by omega), o_up_at, o_up_ne (by omega), o_up_ne (by omega), o_up_at, o_up_ne (by omega), o_up_at]
      exact ⟨rfl, rfl, rfl, rfl⟩
  · rw [o_up_ne x1, o_up_ne (by omega), o_up_ne (by omega), o_up_ne (by omega), o_up_ne (by omega)]
  · rw [o_up_nj (Or.inr hk), o_up_ne (by omega), o_up_ne (by omega), o_up_ne (by omega), o_up_ne (by omega)]
theorem car_cc (A : Nat → Int) (eN bN kN : Nat) : carF A eN bN kN = if ccP (fun j => A (190 + 813 * eN + 8 * j)) (fun j => A (190 + 813 * kN + 8 * j)) (nBr A kN) bN = 0 then -7 else ((ccP (fun j => A (190 + 813 * eN + 8 * j)) (fun j => A (190 + 813 * kN + 8 * j)) (nBr A kN) bN : Nat) : Int) := rfl
theorem car_lt {A : Nat → Int} {eN bN kN : Nat} : carF A eN bN kN < 0 ↔ ccP (fun j => A (190 + 813 * eN + 8 * j)) (fun j => A (190 + 813 * kN + 8 * j)) (nBr A kN) bN = 0 := by
  rw [car_cc]
  split <;> omega
theorem car_eq {A : Nat → Int} {eN bN kN jN : Nat} (h : 1 ≤ jN) : carF A eN bN kN = (jN : Int) ↔ ccP (fun j => A (190 + 813 * eN + 8 * j)) (fun j => A (190 + 813 * kN + 8 * j)) (nBr A kN) bN = jN := by
  rw [car_cc]
  split <;> omega
theorem car_r {A : Nat → Int} {eN bN kN : Nat} (h : nBr A kN ≤ 99) : o_r (carF A eN bN kN) := by
  rcases carF_in (A := A) (eN := eN) (bN := bN) (kN := kN) with h1 | ⟨tN, h1, h2, h3, -⟩ <;> rw [h1] <;> omega
set_option maxRecDepth 20000 in
set_option maxHeartbeats 8000000 in
theorem c_X9_adds {T : oT} {σ : oM} {mC : Nat} (hM : oMm T mC) {Lr : List oRun} {kd bx tx lx : Int} (hL : oRm σ mC Lr) (hlen : Lr.length < 198) : MS yX9_adds cX9_adds 5 none 0 0 0 0 [og mC, oi kd, oi bx, oi tx, oi lx] T σ (oPv (fun σ2 => oFd σ σ2 mC (Lr ++ [(kd, bx, tx, lx)])) T) := by
  have hMc := hM
  obtain ⟨hM0, hMr0, hMr1, hMr2, hMr3, hMr8, hMr9, hMr10, hMr11, hMr13, hMr14, hMr15, hMr16, hMr17, hMr18, hMr19, hMr20, hMk1, hMk2, hMk3, hMk4, hMk5, hMk6, hMk7, hMk8, hMk9, hMk10, hMk11, hMk12, hMk13, hMk14, hMk15, hMk16, hMT⟩ := hMc
  refine o_met (by decide +kernel) (Nat.le_of_ble_eq_true rfl) (fun p l ee s m args below meth c G b C hr hn => ?_)
  have C : oCx p s m args meth c G b RX9 cX9_adds 5 := C
  show oW p l ee ({ frames := 0, cells := 0, slots := 0, locals := 0 } : Room) s m args below meth c G b 5 0 0 (MQ below (o_Qc G b (oPv (fun σ2 => oFd σ σ2 mC (Lr ++ [(kd, bx, tx, lx)])) T)) args s 0 0 (fun q => b ≤ q)) T σ 0 [some (og mC), some (oi kd), some (oi bx), some (oi tx), some (oi lx)] []
  refine r_al0 (q := 1) C dX9_adds_0 rfl ?_
  refine r_getR (q := 4) C f_X9_37 dX9_adds_1 rfl rfl (by assumption) (by assumption) (by omega) ?_
  refine r_al0 (q := 5) C dX9_adds_4 rfl ?_
  refine r_getI (q := 8) C f_X9_49 dX9_adds_5 rfl rfl (by assumption) (by omega) ?_
  rw [hL.1]
  refine r_il1 (q := 9) C dX9_adds_8 rfl ?_
  refine r_iast (q := 10) C (Lr.length) dX9_adds_9 rfl (by assumption) (by omega) (by omega) (by omega) (by decide) ?_
  refine r_al0 (q := 11) C dX9_adds_10 rfl ?_
  refine r_getR (q := 14) C f_X9_40 dX9_adds_11 rfl rfl (by assumption) (by assumption) (by omega) ?_
  refine r_al0 (q := 15) C dX9_adds_14 rfl ?_
  refine r_getI (q := 18) C f_X9_49 dX9_adds_15 rfl rfl (by assumption) (by omega) ?_
  rw [o_up_ne (by omega), hL.1]
  refine r_il2 (q := 19) C dX9_adds_18 rfl ?_
  refine r_iast (q := 20) C (Lr.length) dX9_adds_19 rfl (by assumption) (by omega) (by omega) (by omega) (by decide) ?_
  refine r_al0 (q := 21) C dX9_adds_20 rfl ?_
  refine r_getR (q := 24) C f_X9_43 dX9_adds_21 rfl rfl (by assumption) (by assumption) (by omega) ?_
  refine r_al0 (q := 25) C dX9_adds_24 rfl ?_
  refine r_getI (q := 28) C f_X9_49 dX9_adds_25 rfl rfl (by assumption) (by omega) ?_
  rw [o_up_ne (by omega), o_up_ne (by omega), hL.1]
  refine r_il3 (q := 29) C dX9_adds_28 rfl ?_
  refine r_iast (q := 30) C (Lr.length) dX9_adds_29 rfl (by assumption) (by omega) (by omega) (by omega) (by decide) ?_
  refine r_al0 (q := 31) C dX9_adds_30 rfl ?_
  refine r_getR (q := 34) C f_X9_46 dX9_adds_31 rfl rfl (by assumption) (by assumption) (by omega) ?_
  refine r_al0 (q := 35) C dX9_adds_34 rfl ?_
  refine r_getI (q := 38) C f_X9_49 dX9_adds_35 rfl rfl (by assumption) (by omega) ?_
  rw [o_up_ne (by omega), o_up_ne (by omega), o_up_ne (by omega), hL.1]
  refine r_il4 (q := 40) C dX9_adds_38 rfl ?_
  refine r_iast (q := 41) C (Lr.length) dX9_adds_40 rfl (by assumption) (by omega) (by omega) (by omega) (by decide) ?_
  refine r_al0 (q := 42) C dX9_adds_41 rfl ?_
  refine r_dup (q := 43) C dX9_adds_42 rfl ?_
  refine r_getI (q := 46) C f_X9_49 dX9_adds_43 rfl rfl (by assumption) (by omega) ?_
  rw [o_up_ne (by omega), o_up_ne (by omega), o_up_ne (by omega), o_up_ne (by omega), hL.1]
  refine r_iconst (q := 47) C dX9_adds_46 rfl ?_
  refine r_iadd (q := 48) C dX9_adds_47 rfl ?_
  refine r_putI (q := 51) C fp_X9_49 dX9_adds_48 rfl rfl (by assumption) (by omega) ?_
  exact r_vret C hr dX9_adds_51 (by decide) (by decide) ⟨rfl, rfl, oRm_add hL⟩
set_option maxRecDepth 20000 in
set_option maxHeartbeats 40000000 in
theorem c_X9_finds {T : oT} {σ : oM} {mC : Nat} (hM : oMm T mC) {Bd : Int} (hI : oI Bd (σ (mC + 1))) {eN kN : Nat} (heN : eN < nEd (σ (mC + 1))) (hkN : kN < nEd (σ (mC + 1))) (hwk : σ (mC + 1) (177 + 813 * eN) = σ (mC + 1) (177 + 813 * kN)) : MS yX9_finds cX9_finds 7 none 3 0 0 66 [og mC, oi ((eN : Nat) : Int), oi ((kN : Nat) : Int)] T σ (oPv (fun σ2 => oFd σ σ2 mC (runsA (σ (mC + 1)) eN kN)) T) := by
  have hMc := hM
  obtain ⟨hM0, hMr0, hMr1, hMr2, hMr3, hMr8, hMr9, hMr10, hMr11, hMr13, hMr14, hMr15, hMr16, hMr17, hMr18, hMr19, hMr20, hMk1, hMk2, hMk3, hMk4, hMk5, hMk6, hMk7, hMk8, hMk9, hMk10, hMk11, hMk12, hMk13, hMk14, hMk15, hMk16, hMT⟩ := hMc
  have hI0 := hI.2.1
  have hI1 := hI.2.2.1
  have hI2 := hI.2.2.2.1
  have hIn := oI_n hI
  have hIB := hI.1
  have hIE := oI_b hI heN
  have hIK := oI_b hI hkN
  have ho := ordP_of hI heN hkN hwk
  have h9 : nBr (σ (mC + 1)) eN + nBr (σ (mC + 1)) kN ≤ 198 := by omega
  refine o_met (by decide +kernel) (Nat.le_of_ble_eq_true rfl) (fun p l ee s m args below meth c G b C hr hn => ?_)
  have C : oCx p s m args meth c G b RX9 cX9_finds 7 := C
  show oW p l ee ({ frames := 3, cells := 0, slots := 0, locals := 66 } : Room) s m args below meth c G b 7 0 0 (MQ below (o_Qc G b (oPv (fun σ2 => oFd σ σ2 mC (runsA (σ (mC + 1)) eN kN)) T)) args s 0 0 (fun q => b ≤ q)) T σ 0 [some (og mC), some (oi ((eN : Nat) : Int)), some (oi ((kN : Nat) : Int)), none, none, none, none] []
  have lp : ∀ (n : Nat) (i j : Nat) (Lr : List oRun) (σx : oM) (w5 w6 : Option oV), ((nBr (σ (mC + 1)) eN) + 1 - i) + ((nBr (σ (mC + 1)) kN) + 1 - j) < n → (oFd σ σx mC Lr) → (stH (fun j => (σ (mC + 1)) (190 + 813 * eN + 8 * j)) (fun j => (σ (mC + 1)) (191 + 813 * eN + 8 * j)) (fun j => (σ (mC + 1)) (190 + 813 * kN + 8 * j)) (fun j => (σ (mC + 1)) (191 + 813 * kN + 8 * j)) (nBr (σ (mC + 1)) eN) (nBr (σ (mC + 1)) kN) i j Lr) → oW p l ee ({ frames := 3, cells := 0, slots := 0, locals := 66 } : Room) s m args below meth c G b 7 0 0 (MQ below (o_Qc G b (oPv (fun σ2 => oFd σ σ2 mC (runsA (σ (mC + 1)) eN kN)) T)) args s 0 0 (fun q => b ≤ q)) T σx 10 [some (og mC), some (oi ((eN : Nat) : Int)), some (oi ((kN : Nat) : Int)), some (oi ((i : Nat) : Int)), some (oi ((j : Nat) : Int)), w5, w6] [] := by
    intro n
    induction n with
    | zero =>
      intro i j Lr σx w5 w6 hms
      exact absurd hms (Nat.not_lt_zero _)
    | succ n ih =>
      intro i j Lr σx w5 w6 hms hfd hsH
      have hNx : σx (mC + 1) = σ (mC + 1) := hfd.2.1 _ (by omega) (by omega)
      have hIx : oI Bd (σx (mC + 1)) := by rw [hNx]; exact hI
      have gA := hsH.1
      have hen : (i ≤ (nBr (σ (mC + 1)) eN) ∨ j ≤ (nBr (σ (mC + 1)) kN)) → oW p l ee ({ frames := 3, cells := 0, slots := 0, locals := 66 } : Room) s m args below meth c G b 7 0 0 (MQ below (o_Qc G b (oPv (fun σ2 => oFd σ σ2 mC (runsA (σ (mC + 1)) eN kN)) T)) args s 0 0 (fun q => b ≤ q)) T σx 29 [some (og mC), some (oi ((eN : Nat) : Int)), some (oi ((kN : Nat) : Int)), some (oi ((i : Nat) : Int)), some (oi ((j : Nat) : Int)), w5, w6] [] := by
        intro hne
        have mz : ∀ i3 j3 d : Nat, i ≤ i3 ∧ j ≤ j3 → (i < i3 ∨ j < j3 ∨ (facP (fun j => (σ (mC + 1)) (190 + 813 * eN + 8 * j)) (fun j => (σ (mC + 1)) (190 + 813 * kN + 8 * j)) (nBr (σ (mC + 1)) eN) (nBr (σ (mC + 1)) kN) (i3) (j3) ∧ (fun j => (σ (mC + 1)) (191 + 813 * eN + 8 * j)) (i3) = (fun j => (σ (mC + 1)) (191 + 813 * kN + 8 * j)) (j3)) ∨ (i3 = (nBr (σ (mC + 1)) eN) + 1 ∧ j3 = (nBr (σ (mC + 1)) kN) + 1)) → ¬ (facP (fun j => (σ (mC + 1)) (190 + 813 * eN + 8 * j)) (fun j => (σ (mC + 1)) (190 + 813 * kN + 8 * j)) (nBr (σ (mC + 1)) eN) (nBr (σ (mC + 1)) kN) (i3 + d) (j3 + d) ∧ (fun j => (σ (mC + 1)) (191 + 813 * eN + 8 * j)) (i3 + d) = (fun j => (σ (mC + 1)) (191 + 813 * kN + 8 * j)) (j3 + d)) → (i3 + d ≤ (nBr (σ (mC + 1)) eN) + 1 ∧ j3 + d ≤ (nBr (σ (mC + 1)) kN) + 1) → ((nBr (σ (mC + 1)) eN) + 1 - (i3 + d)) + ((nBr (σ (mC + 1)) kN) + 1 - (j3 + d)) < n := fun i3 j3 d q1 q2 q3 q4 => by
          by_cases hd0 : d = 0
          · subst hd0
            rcases q2 with q2 | q2 | q2 | q2
            · omega
            · omega
            · exact absurd q2 q3
            · omega
          · omega
        have k209 : ∀ (n4 : Nat) (i3 j3 d : Nat) (L3 : List oRun) (σ3 : oM) (w5 w6 : Option oV), (nBr (σ (mC + 1)) eN) + 1 - (i3 + d) < n4 → (oFd σ σ3 mC L3) → (st4 (fun j => (σ (mC + 1)) (190 + 813 * eN + 8 * j)) (fun j => (σ (mC + 1)) (191 + 813 * eN + 8 * j)) (fun j => (σ (mC + 1)) (190 + 813 * kN + 8 * j)) (fun j => (σ (mC + 1)) (191 + 813 * kN + 8 * j)) (nBr (σ (mC + 1)) eN) (nBr (σ (mC + 1)) kN) i3 j3 L3) → (∀ x, x < d → facP (fun j => (σ (mC + 1)) (190 + 813 * eN + 8 * j)) (fun j => (σ (mC + 1)) (190 + 813 * kN + 8 * j)) (nBr (σ (mC + 1)) eN) (nBr (σ (mC + 1)) kN) (i3 + x) (j3 + x) ∧ (fun j => (σ (mC + 1)) (191 + 813 * eN + 8 * j)) (i3 + x) = (fun j => (σ (mC + 1)) (191 + 813 * kN + 8 * j)) (j3 + x)) → (i ≤ i3 ∧ j ≤ j3) → (i < i3 ∨ j < j3 ∨ (facP (fun j => (σ (mC + 1)) (190 + 813 * eN + 8 * j)) (fun j => (σ (mC + 1)) (190 + 813 * kN + 8 * j)) (nBr (σ (mC + 1)) eN) (nBr (σ (mC + 1)) kN) (i3) (j3) ∧ (fun j => (σ (mC + 1)) (191 + 813 * eN + 8 * j)) (i3) = (fun j => (σ (mC + 1)) (191 + 813 * kN + 8 * j)) (j3)) ∨ (i3 = (nBr (σ (mC + 1)) eN) + 1 ∧ j3 = (nBr (σ (mC + 1)) kN) + 1)) → (i3 + d ≤ (nBr (σ (mC + 1)) eN) + 1 ∧ j3 + d ≤ (nBr (σ (mC + 1)) kN) + 1) → oW p l ee ({ frames := 3, cells := 0, slots := 0, locals := 66 } : Room) s m args below meth c G b 7 0 0 (MQ below (o_Qc G b (oPv (fun σ2 => oFd σ σ2 mC (runsA (σ (mC + 1)) eN kN)) T)) args s 0 0 (fun q => b ≤ q)) T σ3 209 [some (og mC), some (oi ((eN : Nat) : Int)), some (oi ((kN : Nat) : Int)), some (oi ((i3 + d : Nat) : Int)), some (oi ((j3 + d : Nat) : Int)), w5, w6] [] := by
          intro n4
          induction n4 with
          | zero =>
            intro i3 j3 d L3 σ3 w5 w6 hms
            exact absurd hms (Nat.not_lt_zero _)
          | succ n4 ih4 =>
            intro i3 j3 d L3 σ3 w5 w6 hms g1 g2 g3 g4 g5 gB
            have hNx : σ3 (mC + 1) = σ (mC + 1) := g1.2.1 _ (by omega) (by omega)
            have hIx : oI Bd (σ3 (mC + 1)) := by rw [hNx]; exact hI
            have gA := g2.1
            refine r_il3 (q := 210) C dX9_finds_209 rfl ?_
            refine r_al0 (q := 211) C dX9_finds_210 rfl ?_
            refine r_il1 (q := 212) C dX9_finds_211 rfl ?_
            refine r_callV1 (q := 215) C (c_X9_bars hM (by omega)) m_X9_116 (by assumption) (by omega) dX9_finds_212 rfl rfl (by decide) (by decide) (Nat.le_of_ble_eq_true rfl) ?_
            rw [hNx, ← hIE.2.1]
            refine r_icgt (q := 261) (q2 := 218) C (by omega) (by omega) dX9_finds_215 (by decide) rfl (fun br215 => ?_) (fun br215 => ?_)
            · refine r_goto (q := 10) C dX9_finds_261 (by decide) ?_
              have hnx : ¬ (facP (fun j => (σ (mC + 1)) (190 + 813 * eN + 8 * j)) (fun j => (σ (mC + 1)) (190 + 813 * kN + 8 * j)) (nBr (σ (mC + 1)) eN) (nBr (σ (mC + 1)) kN) (i3 + d) (j3 + d) ∧ (fun j => (σ (mC + 1)) (191 + 813 * eN + 8 * j)) (i3 + d) = (fun j => (σ (mC + 1)) (191 + 813 * kN + 8 * j)) (j3 + d)) := fun hc => by have := hc.1.1; omega
              exact ih (i3 + d) (j3 + d) L3 σ3 _ _ (mz i3 j3 d g4 g5 hnx gB) g1 (st_4 ho g2 g3 hnx)
            · refine r_il4 (q := 220) C dX9_finds_218 rfl ?_
              refine r_al0 (q := 221) C dX9_finds_220 rfl ?_
              refine r_il2 (q := 222) C dX9_finds_221 rfl ?_
              refine r_callV1 (q := 225) C (c_X9_bars hM (by omega)) m_X9_116 (by assumption) (by omega) dX9_finds_222 rfl rfl (by decide) (by decide) (Nat.le_of_ble_eq_true rfl) ?_
              rw [hNx, ← hIK.2.1]
              refine r_icgt (q := 261) (q2 := 228) C (by omega) (by omega) dX9_finds_225 (by decide) rfl (fun br225 => ?_) (fun br225 => ?_)
              · refine r_goto (q := 10) C dX9_finds_261 (by decide) ?_
                have hnx : ¬ (facP (fun j => (σ (mC + 1)) (190 + 813 * eN + 8 * j)) (fun j => (σ (mC + 1)) (190 + 813 * kN + 8 * j)) (nBr (σ (mC + 1)) eN) (nBr (σ (mC + 1)) kN) (i3 + d) (j3 + d) ∧ (fun j => (σ (mC + 1)) (191 + 813 * eN + 8 * j)) (i3 + d) = (fun j => (σ (mC + 1)) (191 + 813 * kN + 8 * j)) (j3 + d)) := fun hc => by have := hc.1.2.1; omega
                exact ih (i3 + d) (j3 + d) L3 σ3 _ _ (mz i3 j3 d g4 g5 hnx gB) g1 (st_4 ho g2 g3 hnx)
              · refine r_al0 (q := 229) C dX9_finds_228 rfl ?_
                refine r_il1 (q := 230) C dX9_finds_229 rfl ?_
                refine r_il3 (q := 231) C dX9_finds_230 rfl ?_
                refine r_il2 (q := 232) C dX9_finds_231 rfl ?_
                refine r_callV1 (q := 235) C (c_X9_carried (eN := eN) (bN := i3 + d) (kN := kN) hM hIx (by rw [hNx]; assumption) (by rw [hNx]; exact ⟨by omega, by omega⟩) (by rw [hNx]; assumption)) m_X9_158 (by assumption) (by omega) dX9_finds_232 rfl rfl (by decide) (by decide) (Nat.le_of_ble_eq_true rfl) ?_
                rw [hNx]
                have hcr := car_r (A := σ (mC + 1)) (eN := eN) (bN := i3 + d) (kN := kN) (by omega)
                refine r_il4 (q := 237) C dX9_finds_235 rfl ?_
                refine r_icne (q := 261) (q2 := 240) C hcr (by omega) dX9_finds_237 (by decide) rfl (fun br237 => ?_) (fun br237 => ?_)
                · refine r_goto (q := 10) C dX9_finds_261 (by decide) ?_
                  have hnx : ¬ (facP (fun j => (σ (mC + 1)) (190 + 813 * eN + 8 * j)) (fun j => (σ (mC + 1)) (190 + 813 * kN + 8 * j)) (nBr (σ (mC + 1)) eN) (nBr (σ (mC + 1)) kN) (i3 + d) (j3 + d) ∧ (fun j => (σ (mC + 1)) (191 + 813 * eN + 8 * j)) (i3 + d) = (fun j => (σ (mC + 1)) (191 + 813 * kN + 8 * j)) (j3 + d)) := fun hc => br237 ((car_eq (by omega)).mpr hc.1.2.2)
                  exact ih (i3 + d) (j3 + d) L3 σ3 _ _ (mz i3 j3 d g4 g5 hnx gB) g1 (st_4 ho g2 g3 hnx)
                · refine r_al0 (q := 241) C dX9_finds_240 rfl ?_
                  refine r_il1 (q := 242) C dX9_finds_241 rfl ?_
                  refine r_il3 (q := 243) C dX9_finds_242 rfl ?_
                  refine r_il2 (q := 244) C dX9_finds_243 rfl ?_
                  refine r_il4 (q := 246) C dX9_finds_244 rfl ?_
                  refine r_callVb (q := 249) C (c_X9_isSame (eN := eN) (aN := i3 + d) (kN := kN) (dN := j3 + d) hM hIx (by rw [hNx]; assumption) (by rw [hNx]; exact ⟨by omega, by omega⟩) (by rw [hNx]; assumption) (by rw [hNx]; exact ⟨by omega, by omega⟩)) m_X9_166 (by assumption) (by omega) dX9_finds_246 rfl rfl (by decide) (by decide) (Nat.le_of_ble_eq_true rfl) (fun br246 => ?_) (fun br246 => ?_)
                  · refine r_ifeq_f (q := 261) (q2 := 252) C (by decide) (by omega) dX9_finds_249 (by decide) rfl ?_
                    refine r_iinc3 (q := 255) C dX9_finds_252 rfl (by decide) ?_
                    refine r_iinc4 (q := 258) C dX9_finds_255 rfl (by decide) ?_
                    refine r_goto (q := 209) C dX9_finds_258 (by decide) ?_
                    exact ih4 i3 j3 (d + 1) L3 σ3 _ _ (by omega) g1 g2 (fun x hx => (Nat.lt_or_ge x d).elim (fun q => g3 x q) (fun q => by rw [show x = d by omega]; exact ⟨⟨by omega, by omega, (car_eq (by omega)).mp br237⟩, by rw [hNx] at br246; exact br246⟩)) g4 g5 (by omega)
                  · refine r_ifeq_t (q := 261) C (by decide) (by omega) dX9_finds_249 (by decide) ?_
                    refine r_goto (q := 10) C dX9_finds_261 (by decide) ?_
                    have hnx : ¬ (facP (fun j => (σ (mC + 1)) (190 + 813 * eN + 8 * j)) (fun j => (σ (mC + 1)) (190 + 813 * kN + 8 * j)) (nBr (σ (mC + 1)) eN) (nBr (σ (mC + 1)) kN) (i3 + d) (j3 + d) ∧ (fun j => (σ (mC + 1)) (191 + 813 * eN + 8 * j)) (i3 + d) = (fun j => (σ (mC + 1)) (191 + 813 * kN + 8 * j)) (j3 + d)) := fun hc => br246 (by rw [hNx]; exact hc.2)
                    exact ih (i3 + d) (j3 + d) L3 σ3 _ _ (mz i3 j3 d g4 g5 hnx gB) g1 (st_4 ho g2 g3 hnx)
        have k190 : ∀ (i1 j2 d : Nat) (L2 : List oRun) (σ2 : oM), (oFd σ σ2 mC L2) → (st3 (fun j => (σ (mC + 1)) (190 + 813 * eN + 8 * j)) (fun j => (σ (mC + 1)) (191 + 813 * eN + 8 * j)) (fun j => (σ (mC + 1)) (190 + 813 * kN + 8 * j)) (fun j => (σ (mC + 1)) (191 + 813 * kN + 8 * j)) (nBr (σ (mC + 1)) eN) (nBr (σ (mC + 1)) kN) i1 j2 L2) → (∀ x, x < d → facP (fun j => (σ (mC + 1)) (190 + 813 * eN + 8 * j)) (fun j => (σ (mC + 1)) (190 + 813 * kN + 8 * j)) (nBr (σ (mC + 1)) eN) (nBr (σ (mC + 1)) kN) (i1 + x) (j2 + x) ∧ (fun j => (σ (mC + 1)) (191 + 813 * eN + 8 * j)) (i1 + x) ≠ (fun j => (σ (mC + 1)) (191 + 813 * kN + 8 * j)) (j2 + x)) → (¬ (facP (fun j => (σ (mC + 1)) (190 + 813 * eN + 8 * j)) (fun j => (σ (mC + 1)) (190 + 813 * kN + 8 * j)) (nBr (σ (mC + 1)) eN) (nBr (σ (mC + 1)) kN) (i1 + d) (j2 + d) ∧ (fun j => (σ (mC + 1)) (191 + 813 * eN + 8 * j)) (i1 + d) ≠ (fun j => (σ (mC + 1)) (191 + 813 * kN + 8 * j)) (j2 + d))) → (i ≤ i1 ∧ j ≤ j2) → (i1 + d ≤ (nBr (σ (mC + 1)) eN) + 1 ∧ j2 + d ≤ (nBr (σ (mC + 1)) kN) + 1) → oW p l ee ({ frames := 3, cells := 0, slots := 0, locals := 66 } : Room) s m args below meth c G b 7 0 0 (MQ below (o_Qc G b (oPv (fun σ2 => oFd σ σ2 mC (runsA (σ (mC + 1)) eN kN)) T)) args s 0 0 (fun q => b ≤ q)) T σ2 190 [some (og mC), some (oi ((eN : Nat) : Int)), some (oi ((kN : Nat) : Int)), some (oi ((i1 + d : Nat) : Int)), some (oi ((j2 + d : Nat) : Int)), some (oi ((i1 : Nat) : Int)), some (oi ((j2 : Nat) : Int))] [] := by
          intro i1 j2 d L2 σ2 g1 g2 g3 gs g4 gB
          have g5 : i < i1 + d ∨ j < j2 + d ∨ (facP (fun j => (σ (mC + 1)) (190 + 813 * eN + 8 * j)) (fun j => (σ (mC + 1)) (190 + 813 * kN + 8 * j)) (nBr (σ (mC + 1)) eN) (nBr (σ (mC + 1)) kN) (i1 + d) (j2 + d) ∧ (fun j => (σ (mC + 1)) (191 + 813 * eN + 8 * j)) (i1 + d) = (fun j => (σ (mC + 1)) (191 + 813 * kN + 8 * j)) (j2 + d)) ∨ (i1 + d = (nBr (σ (mC + 1)) eN) + 1 ∧ j2 + d = (nBr (σ (mC + 1)) kN) + 1) := by
            by_cases hd0 : d = 0
            · subst hd0
              rcases g2.2 with q | q
              · refine Or.inr (Or.inr (Or.inl ⟨q.1, Decidable.byContradiction (fun hc => gs ⟨q.1, hc⟩)⟩))
              · exact Or.inr (Or.inr (Or.inr ⟨q.1, q.2.1⟩))
            · exact Or.inl (by omega)
          have hst3 := st_3 ho h9 g2 g3 gs
          refine r_il3 (q := 191) C dX9_finds_190 rfl ?_
          refine r_il5 (q := 193) C dX9_finds_191 rfl ?_
          refine r_icle (q := 209) (q2 := 196) C (by omega) (by omega) dX9_finds_193 (by decide) rfl (fun br193 => ?_) (fun br193 => ?_)
          · have hd0 : d = 0 := by omega
            have hz := hst3.1
            rw [if_pos hd0] at hz
            exact k209 _ (i1 + d) (j2 + d) 0 L2 σ2 _ _ (Nat.lt_succ_self _) g1 hz (fun x hx => absurd hx (Nat.not_lt_zero _)) (by omega) g5 (by omega)
          · have hd0 : d ≠ 0 := by omega
            have hz := hst3.1
            have hll := hst3.2 hd0
            rw [if_neg hd0] at hz
            rw [List.length_append] at hll
            have hl1 : L2.length < 198 := by
              have e1 : [((3 : Int), (i1 : Int), (j2 : Int), (d : Int))].length = 1 := rfl
              omega
            refine r_al0 (q := 197) C dX9_finds_196 rfl ?_
            refine r_iconst (q := 198) C dX9_finds_197 rfl ?_
            refine r_il5 (q := 200) C dX9_finds_198 rfl ?_
            refine r_il6 (q := 202) C dX9_finds_200 rfl ?_
            refine r_il3 (q := 203) C dX9_finds_202 rfl ?_
            refine r_il5 (q := 205) C dX9_finds_203 rfl ?_
            refine r_isub (q := 206) C dX9_finds_205 rfl ?_
            refine r_callVv (q := 209) C (c_X9_adds hM g1.1 hl1) m_X9_162 (by assumption) (by omega) dX9_finds_206 rfl rfl (by decide) (by decide) (Nat.le_of_ble_eq_true rfl) (fun σ4 hσ4 => ?_)
            have hf4 := oFd_tr g1 hσ4
            rw [show ((i1 + d : Nat) : Int) - ((i1 : Nat) : Int) = (d : Int) by omega] at hf4
            exact k209 _ (i1 + d) (j2 + d) 0 _ σ4 _ _ (Nat.lt_succ_self _) hf4 hz (fun x hx => absurd hx (Nat.not_lt_zero _)) (by omega) g5 (by omega)
        have k138 : ∀ (n3 : Nat) (i1 j2 d : Nat) (L2 : List oRun) (σ2 : oM), (nBr (σ (mC + 1)) eN) + 1 - (i1 + d) < n3 → (oFd σ σ2 mC L2) → (st3 (fun j => (σ (mC + 1)) (190 + 813 * eN + 8 * j)) (fun j => (σ (mC + 1)) (191 + 813 * eN + 8 * j)) (fun j => (σ (mC + 1)) (190 + 813 * kN + 8 * j)) (fun j => (σ (mC + 1)) (191 + 813 * kN + 8 * j)) (nBr (σ (mC + 1)) eN) (nBr (σ (mC + 1)) kN) i1 j2 L2) → (∀ x, x < d → facP (fun j => (σ (mC + 1)) (190 + 813 * eN + 8 * j)) (fun j => (σ (mC + 1)) (190 + 813 * kN + 8 * j)) (nBr (σ (mC + 1)) eN) (nBr (σ (mC + 1)) kN) (i1 + x) (j2 + x) ∧ (fun j => (σ (mC + 1)) (191 + 813 * eN + 8 * j)) (i1 + x) ≠ (fun j => (σ (mC + 1)) (191 + 813 * kN + 8 * j)) (j2 + x)) → (i ≤ i1 ∧ j ≤ j2) → (i1 + d ≤ (nBr (σ (mC + 1)) eN) + 1 ∧ j2 + d ≤ (nBr (σ (mC + 1)) kN) + 1) → oW p l ee ({ frames := 3, cells := 0, slots := 0, locals := 66 } : Room) s m args below meth c G b 7 0 0 (MQ below (o_Qc G b (oPv (fun σ2 => oFd σ σ2 mC (runsA (σ (mC + 1)) eN kN)) T)) args s 0 0 (fun q => b ≤ q)) T σ2 138 [some (og mC), some (oi ((eN : Nat) : Int)), some (oi ((kN : Nat) : Int)), some (oi ((i1 + d : Nat) : Int)), some (oi ((j2 + d : Nat) : Int)), some (oi ((i1 : Nat) : Int)), some (oi ((j2 : Nat) : Int))] [] := by
          intro n3
          induction n3 with
          | zero =>
            intro i1 j2 d L2 σ2 hms
            exact absurd hms (Nat.not_lt_zero _)
          | succ n3 ih3 =>
            intro i1 j2 d L2 σ2 hms g1 g2 g3 g4 gB
            have hNx : σ2 (mC + 1) = σ (mC + 1) := g1.2.1 _ (by omega) (by omega)
            have hIx : oI Bd (σ2 (mC + 1)) := by rw [hNx]; exact hI
            have gA := g2.1
            refine r_il3 (q := 139) C dX9_finds_138 rfl ?_
            refine r_al0 (q := 140) C dX9_finds_139 rfl ?_
            refine r_il1 (q := 141) C dX9_finds_140 rfl ?_
            refine r_callV1 (q := 144) C (c_X9_bars hM (by omega)) m_X9_116 (by assumption) (by omega) dX9_finds_141 rfl rfl (by decide) (by decide) (Nat.le_of_ble_eq_true rfl) ?_
            rw [hNx, ← hIE.2.1]
            refine r_icgt (q := 190) (q2 := 147) C (by omega) (by omega) dX9_finds_144 (by decide) rfl (fun br144 => ?_) (fun br144 => ?_)
            · exact k190 i1 j2 d L2 σ2 g1 g2 g3 (fun hc => by have := hc.1.1; omega) g4 gB
            · refine r_il4 (q := 149) C dX9_finds_147 rfl ?_
              refine r_al0 (q := 150) C dX9_finds_149 rfl ?_
              refine r_il2 (q := 151) C dX9_finds_150 rfl ?_
              refine r_callV1 (q := 154) C (c_X9_bars hM (by omega)) m_X9_116 (by assumption) (by omega) dX9_finds_151 rfl rfl (by decide) (by decide) (Nat.le_of_ble_eq_true rfl) ?_
              rw [hNx, ← hIK.2.1]
              refine r_icgt (q := 190) (q2 := 157) C (by omega) (by omega) dX9_finds_154 (by decide) rfl (fun br154 => ?_) (fun br154 => ?_)
              · exact k190 i1 j2 d L2 σ2 g1 g2 g3 (fun hc => by have := hc.1.2.1; omega) g4 gB
              · refine r_al0 (q := 158) C dX9_finds_157 rfl ?_
                refine r_il1 (q := 159) C dX9_finds_158 rfl ?_
                refine r_il3 (q := 160) C dX9_finds_159 rfl ?_
                refine r_il2 (q := 161) C dX9_finds_160 rfl ?_
                refine r_callV1 (q := 164) C (c_X9_carried (eN := eN) (bN := i1 + d) (kN := kN) hM hIx (by rw [hNx]; assumption) (by rw [hNx]; exact ⟨by omega, by omega⟩) (by rw [hNx]; assumption)) m_X9_158 (by assumption) (by omega) dX9_finds_161 rfl rfl (by decide) (by decide) (Nat.le_of_ble_eq_true rfl) ?_
                rw [hNx]
                have hcr := car_r (A := σ (mC + 1)) (eN := eN) (bN := i1 + d) (kN := kN) (by omega)
                refine r_il4 (q := 166) C dX9_finds_164 rfl ?_
                refine r_icne (q := 190) (q2 := 169) C hcr (by omega) dX9_finds_166 (by decide) rfl (fun br166 => ?_) (fun br166 => ?_)
                · exact k190 i1 j2 d L2 σ2 g1 g2 g3 (fun hc => br166 ((car_eq (by omega)).mpr hc.1.2.2)) g4 gB
                · refine r_al0 (q := 170) C dX9_finds_169 rfl ?_
                  refine r_il1 (q := 171) C dX9_finds_170 rfl ?_
                  refine r_il3 (q := 172) C dX9_finds_171 rfl ?_
                  refine r_il2 (q := 173) C dX9_finds_172 rfl ?_
                  refine r_il4 (q := 175) C dX9_finds_173 rfl ?_
                  refine r_callVb (q := 178) C (c_X9_isSame (eN := eN) (aN := i1 + d) (kN := kN) (dN := j2 + d) hM hIx (by rw [hNx]; assumption) (by rw [hNx]; exact ⟨by omega, by omega⟩) (by rw [hNx]; assumption) (by rw [hNx]; exact ⟨by omega, by omega⟩)) m_X9_166 (by assumption) (by omega) dX9_finds_175 rfl rfl (by decide) (by decide) (Nat.le_of_ble_eq_true rfl) (fun br175 => ?_) (fun br175 => ?_)
                  · refine r_ifne_t (q := 190) C (by decide) (by omega) dX9_finds_178 (by decide) ?_
                    exact k190 i1 j2 d L2 σ2 g1 g2 g3 (fun hc => by rw [hNx] at br175; exact hc.2 br175) g4 gB
                  · refine r_ifne_f (q := 190) (q2 := 181) C (by decide) (by omega) dX9_finds_178 (by decide) rfl ?_
                    refine r_iinc3 (q := 184) C dX9_finds_181 rfl (by decide) ?_
                    refine r_iinc4 (q := 187) C dX9_finds_184 rfl (by decide) ?_
                    refine r_goto (q := 138) C dX9_finds_187 (by decide) ?_
                    exact ih3 i1 j2 (d + 1) L2 σ2 (by omega) g1 g2 (fun x hx => (Nat.lt_or_ge x d).elim (fun q => g3 x q) (fun q => by rw [show x = d by omega]; exact ⟨⟨by omega, by omega, (car_eq (by omega)).mp br166⟩, fun hc => br175 (by rw [hNx]; exact hc)⟩)) g4 (by omega)
        have k131 : ∀ (i1 j2 : Nat) (L2 : List oRun) (σ2 : oM) (w5 w6 : Option oV), (oFd σ σ2 mC L2) → (st3 (fun j => (σ (mC + 1)) (190 + 813 * eN + 8 * j)) (fun j => (σ (mC + 1)) (191 + 813 * eN + 8 * j)) (fun j => (σ (mC + 1)) (190 + 813 * kN + 8 * j)) (fun j => (σ (mC + 1)) (191 + 813 * kN + 8 * j)) (nBr (σ (mC + 1)) eN) (nBr (σ (mC + 1)) kN) i1 j2 L2) → (i ≤ i1 ∧ j ≤ j2) → oW p l ee ({ frames := 3, cells := 0, slots := 0, locals := 66 } : Room) s m args below meth c G b 7 0 0 (MQ below (o_Qc G b (oPv (fun σ2 => oFd σ σ2 mC (runsA (σ (mC + 1)) eN kN)) T)) args s 0 0 (fun q => b ≤ q)) T σ2 131 [some (og mC), some (oi ((eN : Nat) : Int)), some (oi ((kN : Nat) : Int)), some (oi ((i1 : Nat) : Int)), some (oi ((j2 : Nat) : Int)), w5, w6] [] := by
          intro i1 j2 L2 σ2 w5 w6 g1 g2 g4
          refine r_il3 (q := 132) C dX9_finds_131 rfl ?_
          refine r_is5 (q := 134) C dX9_finds_132 rfl (by decide) ?_
          refine r_il4 (q := 136) C dX9_finds_134 rfl ?_
          refine r_is6 (q := 138) C dX9_finds_136 rfl (by decide) ?_
          exact k138 _ i1 j2 0 L2 σ2 (Nat.lt_succ_self _) g1 g2 (fun x hx => absurd hx (Nat.not_lt_zero _)) g4 (by have := g2.1; omega)
        have k109 : ∀ (i1 j1 d : Nat) (L1 : List oRun) (σ1 : oM) (w6 : Option oV), (oFd σ σ1 mC L1) → (st2 (fun j => (σ (mC + 1)) (190 + 813 * eN + 8 * j)) (fun j => (σ (mC + 1)) (191 + 813 * eN + 8 * j)) (fun j => (σ (mC + 1)) (190 + 813 * kN + 8 * j)) (fun j => (σ (mC + 1)) (191 + 813 * kN + 8 * j)) (nBr (σ (mC + 1)) eN) (nBr (σ (mC + 1)) kN) i1 j1 L1) → (∀ x, j1 ≤ x → x < j1 + d → ccP (fun j => (σ (mC + 1)) (190 + 813 * kN + 8 * j)) (fun j => (σ (mC + 1)) (190 + 813 * eN + 8 * j)) (nBr (σ (mC + 1)) eN) (x) = 0) → (j1 + d = (nBr (σ (mC + 1)) kN) + 1 ∨ ccP (fun j => (σ (mC + 1)) (190 + 813 * kN + 8 * j)) (fun j => (σ (mC + 1)) (190 + 813 * eN + 8 * j)) (nBr (σ (mC + 1)) eN) (j1 + d) ≠ 0) → (i ≤ i1 ∧ j ≤ j1) → (j1 + d ≤ (nBr (σ (mC + 1)) kN) + 1) → oW p l ee ({ frames := 3, cells := 0, slots := 0, locals := 66 } : Room) s m args below meth c G b 7 0 0 (MQ below (o_Qc G b (oPv (fun σ2 => oFd σ σ2 mC (runsA (σ (mC + 1)) eN kN)) T)) args s 0 0 (fun q => b ≤ q)) T σ1 109 [some (og mC), some (oi ((eN : Nat) : Int)), some (oi ((kN : Nat) : Int)), some (oi ((i1 : Nat) : Int)), some (oi ((j1 + d : Nat) : Int)), some (oi ((j1 : Nat) : Int)), w6] [] := by
          intro i1 j1 d L1 σ1 w6 g1 g2 g3 gs g4 gB
          have hst := st_2 ho h9 g2 gB g3 gs
          refine r_il4 (q := 111) C dX9_finds_109 rfl ?_
          refine r_il5 (q := 113) C dX9_finds_111 rfl ?_
          refine r_icle (q := 131) (q2 := 116) C (by omega) (by omega) dX9_finds_113 (by decide) rfl (fun br113 => ?_) (fun br113 => ?_)
          · have hd0 : d = 0 := by omega
            have hz := hst.1
            rw [if_pos hd0] at hz
            exact k131 i1 (j1 + d) L1 σ1 _ _ g1 hz (by omega)
          · have hd0 : d ≠ 0 := by omega
            have hz := hst.1
            have hll := hst.2
            rw [if_neg hd0] at hz hll
            rw [List.length_append] at hll
            have hl1 : L1.length < 198 := by
              have e1 : [((2 : Int), (i1 : Int) - 1, (j1 : Int), (d : Int))].length = 1 := rfl
              omega
            refine r_al0 (q := 117) C dX9_finds_116 rfl ?_
            refine r_iconst (q := 118) C dX9_finds_117 rfl ?_
            refine r_il3 (q := 119) C dX9_finds_118 rfl ?_
            refine r_iconst (q := 120) C dX9_finds_119 rfl ?_
            refine r_isub (q := 121) C dX9_finds_120 rfl ?_
            refine r_il5 (q := 123) C dX9_finds_121 rfl ?_
            refine r_il4 (q := 125) C dX9_finds_123 rfl ?_
            refine r_il5 (q := 127) C dX9_finds_125 rfl ?_
            refine r_isub (q := 128) C dX9_finds_127 rfl ?_
            refine r_callVv (q := 131) C (c_X9_adds hM g1.1 hl1) m_X9_162 (by assumption) (by omega) dX9_finds_128 rfl rfl (by decide) (by decide) (Nat.le_of_ble_eq_true rfl) (fun σ4 hσ4 => ?_)
            have hf4 := oFd_tr g1 hσ4
            rw [show ((j1 + d : Nat) : Int) - ((j1 : Nat) : Int) = (d : Int) by omega] at hf4
            exact k131 i1 (j1 + d) _ σ4 _ _ hf4 hz (by omega)
        have k82 : ∀ (n2 : Nat) (i1 j1 d : Nat) (L1 : List oRun) (σ1 : oM) (w6 : Option oV), (nBr (σ (mC + 1)) kN) + 1 - (j1 + d) < n2 → (oFd σ σ1 mC L1) → (st2 (fun j => (σ (mC + 1)) (190 + 813 * eN + 8 * j)) (fun j => (σ (mC + 1)) (191 + 813 * eN + 8 * j)) (fun j => (σ (mC + 1)) (190 + 813 * kN + 8 * j)) (fun j => (σ (mC + 1)) (191 + 813 * kN + 8 * j)) (nBr (σ (mC + 1)) eN) (nBr (σ (mC + 1)) kN) i1 j1 L1) → (∀ x, j1 ≤ x → x < j1 + d → ccP (fun j => (σ (mC + 1)) (190 + 813 * kN + 8 * j)) (fun j => (σ (mC + 1)) (190 + 813 * eN + 8 * j)) (nBr (σ (mC + 1)) eN) (x) = 0) → (i ≤ i1 ∧ j ≤ j1) → (j1 + d ≤ (nBr (σ (mC + 1)) kN) + 1) → oW p l ee ({ frames := 3, cells := 0, slots := 0, locals := 66 } : Room) s m args below meth c G b 7 0 0 (MQ below (o_Qc G b (oPv (fun σ2 => oFd σ σ2 mC (runsA (σ (mC + 1)) eN kN)) T)) args s 0 0 (fun q => b ≤ q)) T σ1 82 [some (og mC), some (oi ((eN : Nat) : Int)), some (oi ((kN : Nat) : Int)), some (oi ((i1 : Nat) : Int)), some (oi ((j1 + d : Nat) : Int)), some (oi ((j1 : Nat) : Int)), w6] [] := by
          intro n2
          induction n2 with
          | zero =>
            intro i1 j1 d L1 σ1 w6 hms
            exact absurd hms (Nat.not_lt_zero _)
          | succ n2 ih2 =>
            intro i1 j1 d L1 σ1 w6 hms g1 g2 g3 g4 gB
            have hNx : σ1 (mC + 1) = σ (mC + 1) := g1.2.1 _ (by omega) (by omega)
            have hIx : oI Bd (σ1 (mC + 1)) := by rw [hNx]; exact hI
            have gA := g2.1
            refine r_il4 (q := 84) C dX9_finds_82 rfl ?_
            refine r_al0 (q := 85) C dX9_finds_84 rfl ?_
            refine r_il2 (q := 86) C dX9_finds_85 rfl ?_
            refine r_callV1 (q := 89) C (c_X9_bars hM (by omega)) m_X9_116 (by assumption) (by omega) dX9_finds_86 rfl rfl (by decide) (by decide) (Nat.le_of_ble_eq_true rfl) ?_
            rw [hNx, ← hIK.2.1]
            refine r_icgt (q := 109) (q2 := 92) C (by omega) (by omega) dX9_finds_89 (by decide) rfl (fun br89 => ?_) (fun br89 => ?_)
            · exact k109 i1 j1 d L1 σ1 _ g1 g2 g3 (Or.inl (by omega)) g4 gB
            · refine r_al0 (q := 93) C dX9_finds_92 rfl ?_
              refine r_il2 (q := 94) C dX9_finds_93 rfl ?_
              refine r_il4 (q := 96) C dX9_finds_94 rfl ?_
              refine r_il1 (q := 97) C dX9_finds_96 rfl ?_
              refine r_callV1 (q := 100) C (c_X9_carried (eN := kN) (bN := j1 + d) (kN := eN) hM hIx (by rw [hNx]; assumption) (by rw [hNx]; exact ⟨by omega, by omega⟩) (by rw [hNx]; assumption)) m_X9_158 (by assumption) (by omega) dX9_finds_97 rfl rfl (by decide) (by decide) (Nat.le_of_ble_eq_true rfl) ?_
              rw [hNx]
              have hcr := car_r (A := σ (mC + 1)) (eN := kN) (bN := j1 + d) (kN := eN) (by omega)
              refine r_ifge (q := 109) (q2 := 103) C hcr dX9_finds_100 (by decide) rfl (fun br100 => ?_) (fun br100 => ?_)
              · exact k109 i1 j1 d L1 σ1 _ g1 g2 g3 (Or.inr (fun hc => by have := car_lt.mpr hc; omega)) g4 gB
              · refine r_iinc4 (q := 106) C dX9_finds_103 rfl (by decide) ?_
                refine r_goto (q := 82) C dX9_finds_106 (by decide) ?_
                exact ih2 i1 j1 (d + 1) L1 σ1 _ (by omega) g1 g2 (fun x x1 x2 => (Nat.lt_or_ge x (j1 + d)).elim (fun q => g3 x x1 q) (fun q => by rw [show x = j1 + d by omega]; exact car_lt.mp br100)) g4 (by omega)
        have k78 : ∀ (i1 j1 : Nat) (L1 : List oRun) (σ1 : oM) (w5 w6 : Option oV), (oFd σ σ1 mC L1) → (st2 (fun j => (σ (mC + 1)) (190 + 813 * eN + 8 * j)) (fun j => (σ (mC + 1)) (191 + 813 * eN + 8 * j)) (fun j => (σ (mC + 1)) (190 + 813 * kN + 8 * j)) (fun j => (σ (mC + 1)) (191 + 813 * kN + 8 * j)) (nBr (σ (mC + 1)) eN) (nBr (σ (mC + 1)) kN) i1 j1 L1) → (i ≤ i1 ∧ j ≤ j1) → oW p l ee ({ frames := 3, cells := 0, slots := 0, locals := 66 } : Room) s m args below meth c G b 7 0 0 (MQ below (o_Qc G b (oPv (fun σ2 => oFd σ σ2 mC (runsA (σ (mC + 1)) eN kN)) T)) args s 0 0 (fun q => b ≤ q)) T σ1 78 [some (og mC), some (oi ((eN : Nat) : Int)), some (oi ((kN : Nat) : Int)), some (oi ((i1 : Nat) : Int)), some (oi ((j1 : Nat) : Int)), w5, w6] [] := by
          intro i1 j1 L1 σ1 w5 w6 g1 g2 g4
          refine r_il4 (q := 80) C dX9_finds_78 rfl ?_
          refine r_is5 (q := 82) C dX9_finds_80 rfl (by decide) ?_
          exact k82 _ i1 j1 0 L1 σ1 _ (Nat.lt_succ_self _) g1 g2 (fun x x1 x2 => absurd x2 (by omega)) g4 (by have := g2.1; omega)
        have k57 : ∀ (d : Nat) (w6 : Option oV), (∀ x, i ≤ x → x < i + d → ccP (fun j => (σ (mC + 1)) (190 + 813 * eN + 8 * j)) (fun j => (σ (mC + 1)) (190 + 813 * kN + 8 * j)) (nBr (σ (mC + 1)) kN) (x) = 0) → (i + d = (nBr (σ (mC + 1)) eN) + 1 ∨ ccP (fun j => (σ (mC + 1)) (190 + 813 * eN + 8 * j)) (fun j => (σ (mC + 1)) (190 + 813 * kN + 8 * j)) (nBr (σ (mC + 1)) kN) (i + d) ≠ 0) → (i + d ≤ (nBr (σ (mC + 1)) eN) + 1) → oW p l ee ({ frames := 3, cells := 0, slots := 0, locals := 66 } : Room) s m args below meth c G b 7 0 0 (MQ below (o_Qc G b (oPv (fun σ2 => oFd σ σ2 mC (runsA (σ (mC + 1)) eN kN)) T)) args s 0 0 (fun q => b ≤ q)) T σx 57 [some (og mC), some (oi ((eN : Nat) : Int)), some (oi ((kN : Nat) : Int)), some (oi ((i + d : Nat) : Int)), some (oi ((j : Nat) : Int)), some (oi ((i : Nat) : Int)), w6] [] := by
          intro d w6 g3 gs gB
          have hst := st_1 ho h9 hsH hne gB g3 gs
          refine r_il3 (q := 58) C dX9_finds_57 rfl ?_
          refine r_il5 (q := 60) C dX9_finds_58 rfl ?_
          refine r_icle (q := 78) (q2 := 63) C (by omega) (by omega) dX9_finds_60 (by decide) rfl (fun br60 => ?_) (fun br60 => ?_)
          · have hd0 : d = 0 := by omega
            have hz := hst.1
            rw [if_pos hd0] at hz
            exact k78 (i + d) j Lr σx _ _ hfd hz (by omega)
          · have hd0 : d ≠ 0 := by omega
            have hz := hst.1
            have hll := hst.2
            rw [if_neg hd0] at hz hll
            rw [List.length_append] at hll
            have hl1 : Lr.length < 198 := by
              have e1 : [((1 : Int), (i : Int), (j : Int) - 1, (d : Int))].length = 1 := rfl
              omega
            refine r_al0 (q := 64) C dX9_finds_63 rfl ?_
            refine r_iconst (q := 65) C dX9_finds_64 rfl ?_
            refine r_il5 (q := 67) C dX9_finds_65 rfl ?_
            refine r_il4 (q := 69) C dX9_finds_67 rfl ?_
            refine r_iconst (q := 70) C dX9_finds_69 rfl ?_
            refine r_isub (q := 71) C dX9_finds_70 rfl ?_
            refine r_il3 (q := 72) C dX9_finds_71 rfl ?_
            refine r_il5 (q := 74) C dX9_finds_72 rfl ?_
            refine r_isub (q := 75) C dX9_finds_74 rfl ?_
            refine r_callVv (q := 78) C (c_X9_adds hM hfd.1 hl1) m_X9_162 (by assumption) (by omega) dX9_finds_75 rfl rfl (by decide) (by decide) (Nat.le_of_ble_eq_true rfl) (fun σ4 hσ4 => ?_)
            have hf4 := oFd_tr hfd hσ4
            rw [show ((i + d : Nat) : Int) - ((i : Nat) : Int) = (d : Int) by omega] at hf4
            exact k78 (i + d) j _ σ4 _ _ hf4 hz (by omega)
        have k32 : ∀ (n1 : Nat) (d : Nat) (w6 : Option oV), (nBr (σ (mC + 1)) eN) + 1 - (i + d) < n1 → (∀ x, i ≤ x → x < i + d → ccP (fun j => (σ (mC + 1)) (190 + 813 * eN + 8 * j)) (fun j => (σ (mC + 1)) (190 + 813 * kN + 8 * j)) (nBr (σ (mC + 1)) kN) (x) = 0) → (i + d ≤ (nBr (σ (mC + 1)) eN) + 1) → oW p l ee ({ frames := 3, cells := 0, slots := 0, locals := 66 } : Room) s m args below meth c G b 7 0 0 (MQ below (o_Qc G b (oPv (fun σ2 => oFd σ σ2 mC (runsA (σ (mC + 1)) eN kN)) T)) args s 0 0 (fun q => b ≤ q)) T σx 32 [some (og mC), some (oi ((eN : Nat) : Int)), some (oi ((kN : Nat) : Int)), some (oi ((i + d : Nat) : Int)), some (oi ((j : Nat) : Int)), some (oi ((i : Nat) : Int)), w6] [] := by
          intro n1
          induction n1 with
          | zero =>
            intro d w6 hms
            exact absurd hms (Nat.not_lt_zero _)
          | succ n1 ih1 =>
            intro d w6 hms g3 gB
            refine r_il3 (q := 33) C dX9_finds_32 rfl ?_
            refine r_al0 (q := 34) C dX9_finds_33 rfl ?_
            refine r_il1 (q := 35) C dX9_finds_34 rfl ?_
            refine r_callV1 (q := 38) C (c_X9_bars hM (by omega)) m_X9_116 (by assumption) (by omega) dX9_finds_35 rfl rfl (by decide) (by decide) (Nat.le_of_ble_eq_true rfl) ?_
            rw [hNx, ← hIE.2.1]
            refine r_icgt (q := 57) (q2 := 41) C (by omega) (by omega) dX9_finds_38 (by decide) rfl (fun br38 => ?_) (fun br38 => ?_)
            · exact k57 d _ g3 (Or.inl (by omega)) gB
            · refine r_al0 (q := 42) C dX9_finds_41 rfl ?_
              refine r_il1 (q := 43) C dX9_finds_42 rfl ?_
              refine r_il3 (q := 44) C dX9_finds_43 rfl ?_
              refine r_il2 (q := 45) C dX9_finds_44 rfl ?_
              refine r_callV1 (q := 48) C (c_X9_carried (eN := eN) (bN := i + d) (kN := kN) hM hIx (by rw [hNx]; assumption) (by rw [hNx]; exact ⟨by omega, by omega⟩) (by rw [hNx]; assumption)) m_X9_158 (by assumption) (by omega) dX9_finds_45 rfl rfl (by decide) (by decide) (Nat.le_of_ble_eq_true rfl) ?_
              rw [hNx]
              have hcr := car_r (A := σ (mC + 1)) (eN := eN) (bN := i + d) (kN := kN) (by omega)
              refine r_ifge (q := 57) (q2 := 51) C hcr dX9_finds_48 (by decide) rfl (fun br48 => ?_) (fun br48 => ?_)
              · exact k57 d _ g3 (Or.inr (fun hc => by have := car_lt.mpr hc; omega)) gB
              · refine r_iinc3 (q := 54) C dX9_finds_51 rfl (by decide) ?_
                refine r_goto (q := 32) C dX9_finds_54 (by decide) ?_
                exact ih1 (d + 1) _ (by omega) (fun x x1 x2 => (Nat.lt_or_ge x (i + d)).elim (fun q => g3 x x1 q) (fun q => by rw [show x = i + d by omega]; exact car_lt.mp br48)) (by omega)
        have k29 : ∀ (w5 w6 : Option oV), oW p l ee ({ frames := 3, cells := 0, slots := 0, locals := 66 } : Room) s m args below meth c G b 7 0 0 (MQ below (o_Qc G b (oPv (fun σ2 => oFd σ σ2 mC (runsA (σ (mC + 1)) eN kN)) T)) args s 0 0 (fun q => b ≤ q)) T σx 29 [some (og mC), some (oi ((eN : Nat) : Int)), some (oi ((kN : Nat) : Int)), some (oi ((i : Nat) : Int)), some (oi ((j : Nat) : Int)), w5, w6] [] := by
          intro w5 w6 
          refine r_il3 (q := 30) C dX9_finds_29 rfl ?_
          refine r_is5 (q := 32) C dX9_finds_30 rfl (by decide) ?_
          exact k32 _ 0 _ (Nat.lt_succ_self _) (fun x x1 x2 => absurd x2 (by omega)) (by omega)
        exact k29 w5 w6
      refine r_il3 (q := 11) C dX9_finds_10 rfl ?_
      refine r_al0 (q := 12) C dX9_finds_11 rfl ?_
      refine r_il1 (q := 13) C dX9_finds_12 rfl ?_
      refine r_callV1 (q := 16) C (c_X9_bars hM (by omega)) m_X9_116 (by assumption) (by omega) dX9_finds_13 rfl rfl (by decide) (by decide) (Nat.le_of_ble_eq_true rfl) ?_
      rw [hNx, ← hIE.2.1]
      refine r_icle (q := 29) (q2 := 19) C (by omega) (by omega) dX9_finds_16 (by decide) rfl (fun br16 => ?_) (fun br16 => ?_)
      · exact hen (Or.inl (by omega))
      · refine r_il4 (q := 21) C dX9_finds_19 rfl ?_
        refine r_al0 (q := 22) C dX9_finds_21 rfl ?_
        refine r_il2 (q := 23) C dX9_finds_22 rfl ?_
        refine r_callV1 (q := 26) C (c_X9_bars hM (by omega)) m_X9_116 (by assumption) (by omega) dX9_finds_23 rfl rfl (by decide) (by decide) (Nat.le_of_ble_eq_true rfl) ?_
        rw [hNx, ← hIK.2.1]
        refine r_icgt (q := 264) (q2 := 29) C (by omega) (by omega) dX9_finds_26 (by decide) rfl (fun br26 => ?_) (fun br26 => ?_)
        · exact r_vret C hr dX9_finds_264 (by decide) (by decide) ⟨rfl, rfl, by have he := stH_e hsH (by omega) (by omega); rw [he] at hfd; exact hfd⟩
        · exact hen (Or.inr (by omega))
  refine r_al0 (q := 1) C dX9_finds_0 rfl ?_
  refine r_iconst (q := 2) C dX9_finds_1 rfl ?_
  refine r_putI (q := 5) C fp_X9_49 dX9_finds_2 rfl rfl (by assumption) (by omega) ?_
  refine r_iconst (q := 6) C dX9_finds_5 rfl ?_
  refine r_is3 (q := 7) C dX9_finds_6 rfl (by decide) ?_
  refine r_iconst (q := 8) C dX9_finds_7 rfl ?_
  refine r_is4 (q := 10) C dX9_finds_8 rfl (by decide) ?_
  exact lp _ 1 1 [] _ none none (Nat.lt_succ_self _) ⟨⟨o_up_at, fun ix r hr => by simp at hr⟩, fun x x1 _ => o_up_ne x1, fun k hk => o_up_nj (Or.inr hk)⟩ stH_0
