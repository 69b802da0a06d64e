/-! the law: its loop -/
set_option maxRecDepth 20000 in
set_option maxHeartbeats 8000000 in
theorem law_loop {p : Program} {l : Launch} {e : Env} {s : State} {m : MethodId} {args : Array Value} {below : List Frame} {meth : Method} {c : Code} {G : oG} {b ad L xC mC : Nat} {xs : Nat → Int32} {Q : State → Prop} {Bo : Int} (C : oCx p s m args meth c G b RL cL_law 4) (hX : va_X ad L xs s s.heap) (had : ad < b) (hL : L ≤ 3072) (hmx : xC + 1227 ≤ mC) (hBo : 0 ≤ Bo ∧ Bo ≤ 1000000)
    (hend : ∀ (T : oT) (σ : oM) (k n : Nat) (i : Int), k ≤ 600000 → n ≤ 7302250 → oW p l e room_1 s m args below meth c G b 4 k n Q T σ 1695 [some (oa ad), some (og xC), some (og mC), some (oi i)] []) :
    ∀ (fu cn jN k n : Nat) (T : oT) (σ : oM), 512 - cn < fu → jN = 6 * cn → jN ≤ L + 6 → k ≤ 1300 + 60 * cn → n ≤ 120000 + 480 * cn → oLS T σ xC mC (Bo + 162000 * (cn : Int)) → oW p l e room_1 s m args below meth c G b 4 k n Q T σ 18 [some (oa ad), some (og xC), some (og mC), some (oi (jN : Int))] [] := by
  intro fu
  induction fu with
  | zero =>
    intro cn jN k n T σ hfu
    exact absurd hfu (Nat.not_lt_zero _)
  | succ fu ih =>
    intro cn jN k n T σ hfu hjn hjL hk hn hS
    refine r_il3 (q := 19) C dL_law_18 rfl ?_
    refine r_aal0 (q := 20) C dL_law_19 rfl ?_
    refine r_slen (q := 21) C hX had dL_law_20 rfl ?_
    refine r_bipush (q := 23) C dL_law_21 (by decide) rfl ?_
    refine r_isub (q := 24) C dL_law_23 rfl ?_
    refine r_icgt (q := 1695) (q2 := 27) C ⟨by omega, by omega⟩ ⟨by omega, by omega⟩ dL_law_24 (by decide) rfl (fun hc => hend T σ k n _ (by omega) (by omega)) (fun hc => ?_)
    refine r_aal0 (q := 28) C dL_law_27 rfl ?_
    refine r_il3 (q := 29) C dL_law_28 rfl ?_
    refine r_sld (q := 30) (j := jN) C hX had (by omega) (by omega) rfl dL_law_29 rfl ?_
    refine r_bipush (q := 32) C dL_law_30 (by decide) rfl ?_
    refine r_iand (q := 33) (z := (xs jN &&& Int32.ofInt 63).toInt) C (by rw [i32_back, i32_back]) dL_law_32 rfl ?_
    have hzr := o_r32 (xs jN &&& Int32.ofInt 63)
    generalize (xs jN &&& Int32.ofInt 63).toInt = z at hzr ⊢
    have K : ∀ T2 σ2 k2 n2, k2 ≤ k + 60 → n2 ≤ n + 480 → oLS T2 σ2 xC mC (Bo + 162000 * (cn : Int) + 162000) → oW p l e room_1 s m args below meth c G b 4 k2 n2 Q T2 σ2 1689 [some (oa ad), some (og xC), some (og mC), some (oi (jN : Int))] [] := by
      intro T2 σ2 k2 n2 hk2 hn2 hS2
      refine r_iinc3 (q := 1692) C dL_law_1689 rfl (by decide) ?_
      refine r_goto (q := 18) C dL_law_1692 (by decide) ?_
      refine ih (cn + 1) (jN + 6) k2 n2 T2 σ2 (by omega) (by omega) (by omega) (by omega) (by omega) ?_
      rw [show Bo + 162000 * ((cn + 1 : Nat) : Int) = Bo + 162000 * (cn : Int) + 162000 by omega]
      exact hS2
    by_cases hz : 0 ≤ z ∧ z ≤ 42
    · rcases (show z = 0 ∨ z = 1 ∨ z = 2 ∨ z = 3 ∨ z = 4 ∨ z = 5 ∨ z = 6 ∨ z = 7 ∨ z = 8 ∨ z = 9 ∨ z = 10 ∨ z = 11 ∨ z = 12 ∨ z = 13 ∨ z = 14 ∨ z = 15 ∨ z = 16 ∨ z = 17 ∨ z = 18 ∨ z = 19 ∨ z = 20 ∨ z = 21 ∨ z = 22 ∨ z = 23 ∨ z = 24 ∨ z = 25 ∨ z = 26 ∨ z = 27 ∨ z = 28 ∨ z = 29 ∨ z = 30 ∨ z = 31 ∨ z = 32 ∨ z = 33 ∨ z = 34 ∨ z = 35 ∨ z = 36 ∨ z = 37 ∨ z = 38 ∨ z = 39 ∨ z = 40 ∨ z = 41 ∨ z = 42 by omega) with hzj | hzj | hzj | hzj | hzj | hzj | hzj | hzj | hzj | hzj | hzj | hzj | hzj | hzj | hzj | hzj | hzj | hzj | hzj | hzj | hzj | hzj | hzj | hzj | hzj | hzj | hzj | hzj | hzj | hzj | hzj | hzj | hzj | hzj | hzj | hzj | hzj | hzj | hzj | hzj | hzj | hzj | hzj
      · refine r_tsin (q := 220) (j := 0) C dL_law_33 hzr (by omega) (by decide) rfl (by decide) ?_
        exact lc_edition C hX had hL hmx hS (by omega) (by omega) (by omega) (by omega) K
      · refine r_tsin (q := 263) (j := 1) C dL_law_33 hzr (by omega) (by decide) rfl (by decide) ?_
        exact lc_derive C hX had hL hmx hS (by omega) (by omega) (by omega) (by omega) K
      · refine r_tsin (q := 286) (j := 2) C dL_law_33 hzr (by omega) (by decide) rfl (by decide) ?_
        exact lc_cut C hX had hL hmx hS (by omega) (by omega) (by omega) (by omega) K
      · refine r_tsin (q := 329) (j := 3) C dL_law_33 hzr (by omega) (by decide) rfl (by decide) ?_
        exact lc_insert C hX had hL hmx hS (by omega) (by omega) (by omega) (by omega) K
      · refine r_tsin (q := 382) (j := 4) C dL_law_33 hzr (by omega) (by decide) rfl (by decide) ?_
        exact lc_rework C hX had hL hmx hS (by omega) (by omega) (by omega) (by omega) K
      · refine r_tsin (q := 425) (j := 5) C dL_law_33 hzr (by omega) (by decide) rfl (by decide) ?_
        exact lc_ofEdition C hX had hL hmx hS (by omega) (by omega) (by omega) (by omega) K
      · refine r_tsin (q := 458) (j := 6) C dL_law_33 hzr (by omega) (by decide) rfl (by decide) ?_
        exact lc_bar C hX had hL hmx hS (by omega) (by omega) (by omega) (by omega) K
      · refine r_tsin (q := 501) (j := 7) C dL_law_33 hzr (by omega) (by decide) rfl (by decide) ?_
        exact lc_carry C hX had hL hmx hS (by omega) (by omega) (by omega) (by omega) K
      · refine r_tsin (q := 544) (j := 8) C dL_law_33 hzr (by omega) (by decide) rfl (by decide) ?_
        exact lc_compare C hX had hL hmx hS (by omega) (by omega) (by omega) (by omega) K
      · refine r_tsin (q := 587) (j := 9) C dL_law_33 hzr (by omega) (by decide) rfl (by decide) ?_
        exact lc_difference C hX had hL hmx hS (by omega) (by omega) (by omega) (by omega) K
      · refine r_tsin (q := 640) (j := 10) C dL_law_33 hzr (by omega) (by decide) rfl (by decide) ?_
        exact lc_tempo C hX had hL hmx hS (by omega) (by omega) (by omega) (by omega) K
      · refine r_tsin (q := 683) (j := 11) C dL_law_33 hzr (by omega) (by decide) rfl (by decide) ?_
        exact lc_seconds C hX had hL hmx hS (by omega) (by omega) (by omega) (by omega) K
      · refine r_tsin (q := 726) (j := 12) C dL_law_33 hzr (by omega) (by decide) rfl (by decide) ?_
        exact lc_length C hX had hL hmx hS (by omega) (by omega) (by omega) (by omega) K
      · refine r_tsin (q := 749) (j := 13) C dL_law_33 hzr (by omega) (by decide) rfl (by decide) ?_
        exact lc_barAt C hX had hL hmx hS (by omega) (by omega) (by omega) (by omega) K
      · refine r_tsin (q := 782) (j := 14) C dL_law_33 hzr (by omega) (by decide) rfl (by decide) ?_
        exact lc_pace C hX had hL hmx hS (by omega) (by omega) (by omega) (by omega) K
      · refine r_tsin (q := 805) (j := 15) C dL_law_33 hzr (by omega) (by decide) rfl (by decide) ?_
        exact lc_seat C hX had hL hmx hS (by omega) (by omega) (by omega) (by omega) K
      · refine r_tsin (q := 838) (j := 16) C dL_law_33 hzr (by omega) (by decide) rfl (by decide) ?_
        exact lc_needs C hX had hL hmx hS (by omega) (by omega) (by omega) (by omega) K
      · refine r_tsin (q := 861) (j := 17) C dL_law_33 hzr (by omega) (by decide) rfl (by decide) ?_
        exact lc_buy C hX had hL hmx hS (by omega) (by omega) (by omega) (by omega) K
      · refine r_tsin (q := 904) (j := 18) C dL_law_33 hzr (by omega) (by decide) rfl (by decide) ?_
        exact lc_stock C hX had hL hmx hS (by omega) (by omega) (by omega) (by omega) K
      · refine r_tsin (q := 947) (j := 19) C dL_law_33 hzr (by omega) (by decide) rfl (by decide) ?_
        exact lc_bow C hX had hL hmx hS (by omega) (by omega) (by omega) (by omega) K
      · refine r_tsin (q := 1000) (j := 20) C dL_law_33 hzr (by omega) (by decide) rfl (by decide) ?_
        exact lc_bowing C hX had hL hmx hS (by omega) (by omega) (by omega) (by omega) K
      · refine r_tsin (q := 1043) (j := 21) C dL_law_33 hzr (by omega) (by decide) rfl (by decide) ?_
        exact lc_copyBowings C hX had hL hmx hS (by omega) (by omega) (by omega) (by omega) K
      · refine r_tsin (q := 1096) (j := 22) C dL_law_33 hzr (by omega) (by decide) rfl (by decide) ?_
        exact lc_copied C hX had hL hmx hS (by omega) (by omega) (by omega) (by omega) K
      · refine r_tsin (q := 1119) (j := 23) C dL_law_33 hzr (by omega) (by decide) rfl (by decide) ?_
        exact lc_lend C hX had hL hmx hS (by omega) (by omega) (by omega) (by omega) K
      · refine r_tsin (q := 1182) (j := 24) C dL_law_33 hzr (by omega) (by decide) rfl (by decide) ?_
        exact lc_lendAll C hX had hL hmx hS (by omega) (by omega) (by omega) (by omega) K
      · refine r_tsin (q := 1225) (j := 25) C dL_law_33 hzr (by omega) (by decide) rfl (by decide) ?_
        exact lc_bring C hX had hL hmx hS (by omega) (by omega) (by omega) (by omega) K
      · refine r_tsin (q := 1268) (j := 26) C dL_law_33 hzr (by omega) (by decide) rfl (by decide) ?_
        exact lc_loan C hX had hL hmx hS (by omega) (by omega) (by omega) (by omega) K
      · refine r_tsin (q := 1301) (j := 27) C dL_law_33 hzr (by omega) (by decide) rfl (by decide) ?_
        exact lc_overdue C hX had hL hmx hS (by omega) (by omega) (by omega) (by omega) K
      · refine r_tsin (q := 1324) (j := 28) C dL_law_33 hzr (by omega) (by decide) rfl (by decide) ?_
        exact lc_borrower C hX had hL hmx hS (by omega) (by omega) (by omega) (by omega) K
      · refine r_tsin (q := 1357) (j := 29) C dL_law_33 hzr (by omega) (by decide) rfl (by decide) ?_
        exact lc_pass C hX had hL hmx hS (by omega) (by omega) (by omega) (by omega) K
      · refine r_tsin (q := 1380) (j := 30) C dL_law_33 hzr (by omega) (by decide) rfl (by decide) ?_
        exact lc_box C hX had hL hmx hS (by omega) (by omega) (by omega) (by omega) K
      · refine r_tsin (q := 1423) (j := 31) C dL_law_33 hzr (by omega) (by decide) rfl (by decide) ?_
        exact lc_put C hX had hL hmx hS (by omega) (by omega) (by omega) (by omega) K
      · refine r_tsin (q := 1476) (j := 32) C dL_law_33 hzr (by omega) (by decide) rfl (by decide) ?_
        exact lc_look C hX had hL hmx hS (by omega) (by omega) (by omega) (by omega) K
      · refine r_tsin (q := 1519) (j := 33) C dL_law_33 hzr (by omega) (by decide) rfl (by decide) ?_
        exact lc_likeBox C hX had hL hmx hS (by omega) (by omega) (by omega) (by omega) K
      · refine r_tsin (q := 1552) (j := 34) C dL_law_33 hzr (by omega) (by decide) rfl (by decide) ?_
        exact lc_append C hX had hL hmx hS (by omega) (by omega) (by omega) (by omega) K
      · refine r_tsin (q := 1575) (j := 35) C dL_law_33 hzr (by omega) (by decide) rfl (by decide) ?_
        exact lc_read C hX had hL hmx hS (by omega) (by omega) (by omega) (by omega) K
      · refine r_tsin (q := 1588) (j := 36) C dL_law_33 hzr (by omega) (by decide) rfl (by decide) ?_
        exact lc_faultPosition C hX had hL hmx hS (by omega) (by omega) (by omega) (by omega) K
      · refine r_tsin (q := 1601) (j := 37) C dL_law_33 hzr (by omega) (by decide) rfl (by decide) ?_
        exact lc_failed C hX had hL hmx hS (by omega) (by omega) (by omega) (by omega) K
      · refine r_tsin (q := 1614) (j := 38) C dL_law_33 hzr (by omega) (by decide) rfl (by decide) ?_
        exact lc_refusal C hX had hL hmx hS (by omega) (by omega) (by omega) (by omega) K
      · refine r_tsin (q := 1627) (j := 39) C dL_law_33 hzr (by omega) (by decide) rfl (by decide) ?_
        exact lc_count C hX had hL hmx hS (by omega) (by omega) (by omega) (by omega) K
      · refine r_tsin (q := 1650) (j := 40) C dL_law_33 hzr (by omega) (by decide) rfl (by decide) ?_
        exact lc_undo C hX had hL hmx hS (by omega) (by omega) (by omega) (by omega) K
      · refine r_tsin (q := 1663) (j := 41) C dL_law_33 hzr (by omega) (by decide) rfl (by decide) ?_
        exact lc_save C hX had hL hmx hS (by omega) (by omega) (by omega) (by omega) K
      · refine r_tsin (q := 1676) (j := 42) C dL_law_33 hzr (by omega) (by decide) rfl (by decide) ?_
        exact lc_restore C hX had hL hmx hS (by omega) (by omega) (by omega) (by omega) K
    · refine r_tsout (q := 1689) C dL_law_33 hzr (by omega) (by decide) ?_
      exact K T σ k n (by omega) (by omega) (oLS_grow hS (by omega))
