theorem m_X2_41x : o_MX RX2 41 yX2_formBehind cX2_formBehind 1 (some (FieldType.object "java/lang/String")) 1 := ⟨m_X2_41.1, m_X2_41.2.2⟩
theorem dgP_nn {f : Nat → Int} {nI : Nat} : ∀ (k px : Nat) (v : Int), 0 ≤ v → 0 ≤ (dgP f nI k px v).2
  | 0, px, v, h => h
  | k + 1, px, v, h => by
    unfold dgP
    by_cases hc : isDg f nI px
    · rw [if_pos hc]
      exact dgP_nn k (px + 1) _ (by omega)
    · rw [if_neg hc]
      exact h
theorem slen_7 : ∀ i, i < 8 → (o_slen.getD i 0 = 0 → i = 7) ∧ (o_slen.getD i 0 ≠ 0 → i < 7) := by decide
def oPt (σ : oM) (iC nI : Nat) (f : Nat → Int) (px : Nat) (acc : List oCmd) : Prop := σ iC 1 = (nI : Int) ∧ σ iC 2 = (px : Int) ∧ σ iC 3 = (acc.length : Int) ∧ (∀ jx, jx < nI → σ (iC + 1) jx = f jx) ∧ ∀ (kx : Nat) (c : oCmd), acc[kx]? = some c → σ (iC + 2) kx = c.1 ∧ ∀ (jx : Nat) (v : Int), c.2[jx]? = some v → σ (iC + 4 + kx) jx = v
def oPfr (σ σ2 : oM) (iC : Nat) : Prop := (∀ x, (x < iC ∨ iC + 64 ≤ x) → σ2 x = σ x) ∧ σ2 (iC + 1) = σ (iC + 1) ∧ ∀ k, k ≠ 2 → k ≠ 3 → σ2 iC k = σ iC k
def oPq (σ σ1 : oM) (iC kx qx : Nat) (cx : Int) (ns : List Int) : Prop := σ1 iC 2 = (qx : Int) ∧ (∀ k, k ≠ 2 → σ1 iC k = σ iC k) ∧ σ1 (iC + 2) kx = cx ∧ (∀ j, j ≠ kx → σ1 (iC + 2) j = σ (iC + 2) j) ∧ (∀ (j : Nat) (v : Int), ns[j]? = some v → σ1 (iC + 4 + kx) j = v) ∧ ∀ x, x ≠ iC → x ≠ iC + 2 → x ≠ iC + 4 + kx → σ1 x = σ x
theorem oPq_at {σ σ1 : oM} {iC kx qx rx : Nat} {cx : Int} {ns : List Int} (h : oPq σ σ1 iC kx qx cx ns) : oPq σ (o_up σ1 iC 2 (rx : Int)) iC kx rx cx ns :=
  ⟨o_up_at, fun k hk => by rw [o_up_nj (Or.inr hk)]; exact h.2.1 k hk, by rw [o_up_ne (by omega)]; exact h.2.2.1, fun j hj => by rw [o_up_ne (by omega)]; exact h.2.2.2.1 j hj, fun j v hv => by rw [o_up_ne (by omega)]; exact h.2.2.2.2.1 j v hv, fun x x1 x2 x3 => by rw [o_up_ne x1]; exact h.2.2.2.2.2 x x1 x2 x3⟩
theorem oPq_n {σ σ1 : oM} {iC kx qx : Nat} {cx v : Int} {ns : List Int} (h : oPq σ σ1 iC kx qx cx ns) : oPq σ (o_up σ1 (iC + 4 + kx) ns.length v) iC kx qx cx (ns ++ [v]) := by
  refine ⟨by rw [o_up_ne (by omega)]; exact h.1, fun k hk => by rw [o_up_ne (by omega)]; exact h.2.1 k hk, by rw [o_up_ne (by omega)]; exact h.2.2.1, fun j hj => by rw [o_up_ne (by omega)]; exact h.2.2.2.1 j hj, fun j w hv => ?_, fun x x1 x2 x3 => by rw [o_up_ne x3]; exact h.2.2.2.2.2 x x1 x2 x3⟩
  by_cases hc : j < ns.length
  · rw [List.getElem?_append_left hc] at hv
    rw [o_up_nj (Or.inr (by omega))]
    exact h.2.2.2.2.1 j w hv
  · rw [List.getElem?_append_right (by omega)] at hv
    have hj := (List.getElem?_eq_some_iff.mp hv).1
    rw [List.length_cons, List.length_nil] at hj
    have hj2 : j = ns.length := by omega
    subst hj2
    rw [Nat.sub_self] at hv
    cases hv
    exact o_up_at
theorem oPq_bad {σ σ1 : oM} {iC nI px qx : Nat} {f : Nat → Int} {acc : List oCmd} {cx : Int} {ns : List Int} (h : oPt σ iC nI f px acc) (hk60 : acc.length < 60) (hq : oPq σ σ1 iC acc.length qx cx ns) : oPt σ1 iC nI f qx acc ∧ oPfr σ σ1 iC := by
  obtain ⟨q1, q2, q3, q4, q5, q6⟩ := hq
  refine ⟨⟨by rw [q2 1 (by decide)]; exact h.1, q1, by rw [q2 3 (by decide)]; exact h.2.2.1, fun jx hj => by rw [q6 (iC + 1) (by omega) (by omega) (by omega)]; exact h.2.2.2.1 jx hj, fun kx c hc => ?_⟩, fun x hx => q6 x (by omega) (by omega) (by omega), q6 (iC + 1) (by omega) (by omega) (by omega), fun k k2 k3 => q2 k k2⟩
  have hk := (List.getElem?_eq_some_iff.mp hc).1
  obtain ⟨g1, g2⟩ := h.2.2.2.2 kx c hc
  exact ⟨by rw [q4 kx (by omega)]; exact g1, fun jx v hv => by rw [q6 (iC + 4 + kx) (by omega) (by omega) (by omega)]; exact g2 jx v hv⟩
theorem oPq_good {σ σ1 : oM} {iC nI px qx : Nat} {f : Nat → Int} {acc : List oCmd} {cx : Int} {ns : List Int} (h : oPt σ iC nI f px acc) (hk60 : acc.length < 60) (hq : oPq σ σ1 iC acc.length qx cx ns) : oPt (o_up σ1 iC 3 ((acc.length : Int) + 1)) iC nI f qx (acc ++ [(cx, ns)]) ∧ oPfr σ (o_up σ1 iC 3 ((acc.length : Int) + 1)) iC := by
  obtain ⟨q1, q2, q3, q4, q5, q6⟩ := hq
  refine ⟨⟨by rw [o_up_nj (Or.inr (by decide)), q2 1 (by decide)]; exact h.1, by rw [o_up_nj (Or.inr (by decide))]; exact q1, by rw [o_up_at, List.length_append]; rfl, fun jx hj => by rw [o_up_ne (by omega), q6 (iC + 1) (by omega) (by omega) (by omega)]; exact h.2.2.2.1 jx hj, fun kx c hc => ?_⟩, fun x hx => by rw [o_up_ne (by omega)]; exact q6 x (by omega) (by omega) (by omega), by rw [o_up_ne (by omega)]; exact q6 (iC + 1) (by omega) (by omega) (by omega), fun k k2 k3 => by rw [o_up_nj (Or.inr k3)]; exact q2 k k2⟩
  rw [o_up_ne (by omega), o_up_ne (by omega)]
  by_cases hk : kx < acc.length
  · rw [List.getElem?_append_left hk] at hc
    obtain ⟨g1, g2⟩ := h.2.2.2.2 kx c hc
    exact ⟨by rw [q4 kx (by omega)]; exact g1, fun jx v hv => by rw [q6 (iC + 4 + kx) (by omega) (by omega) (by omega)]; exact g2 jx v hv⟩
  · rw [List.getElem?_append_right (by omega)] at hc
    have hj := (List.getElem?_eq_some_iff.mp hc).1
    rw [List.length_cons, List.length_nil] at hj
    have hj2 : kx = acc.length := by omega
    subst hj2
    rw [Nat.sub_self] at hc
    cases hc
    exact ⟨q3, q5⟩
set_option maxRecDepth 20000 in
set_option maxHeartbeats 8000000 in
theorem c_X2_formBehind {G : oG} {b : Nat} {T : oT} {σ : oM} {i : Nat} {z : Int} (hz : o_r z) (hi : formIx z = i) : MSg G b yX2_formBehind cX2_formBehind 1 (some (FieldType.object "java/lang/String")) 0 0 0 0 ([oi z].map (oc b)) T σ (fun r T2 σ2 => r = some (oa (G.2.2.1 i)) ∧ T2 = T ∧ σ2 = σ) := by
  refine o_metG (by decide +kernel) (o_entry b [oi z] (Nat.le_refl _)) (fun p l ee s m args below meth c C hr hn => ?_)
  have C : oCx p s m args meth c G b RX2 cX2_formBehind 1 := C
  show oW p l ee ({ frames := 0, cells := 0, slots := 0, locals := 0 } : Room) s m args below meth c G b 1 0 0 (MQ below (o_Qc G b (fun r T2 σ2 => r = some (oa (G.2.2.1 i)) ∧ T2 = T ∧ σ2 = σ)) args s 0 0 (fun q => b ≤ q)) T σ 0 [some (oi z)] []
  refine r_il0 (q := 1) C dX2_formBehind_0 rfl ?_
  obtain rfl := hi
  rcases (show z = 98 ∨ z = 99 ∨ z = 100 ∨ z = 101 ∨ z = 102 ∨ z = 103 ∨ z = 104 ∨ z = 105 ∨ z = 106 ∨ z = 107 ∨ z = 108 ∨ z = 109 ∨ z = 110 ∨ z = 111 ∨ z = 112 ∨ z = 113 ∨ z = 114 ∨ z = 115 ∨ z = 116 ∨ z = 117 ∨ z = 118 ∨ z = 119 ∨ (z < 98 ∨ 119 < z) by omega) with rfl | rfl | rfl | rfl | rfl | rfl | rfl | rfl | rfl | rfl | rfl | rfl | rfl | rfl | rfl | rfl | rfl | rfl | rfl | rfl | rfl | rfl | hout
  ·
    refine r_tsin (q := 116) (j := 0) C dX2_formBehind_1 (by omega) (by omega) (by decide) rfl (by decide) ?_
    refine r_ldcS (q := 118) (i := 4) C (by decide) dX2_formBehind_116 rfl ?_
    exact r_areta C hr dX2_formBehind_118 (by decide) (by decide) ⟨rfl, rfl, rfl⟩
  ·
    refine r_tsin (q := 104) (j := 1) C dX2_formBehind_1 (by omega) (by omega) (by decide) rfl (by decide) ?_
    refine r_ldcS (q := 106) (i := 0) C (by decide) dX2_formBehind_104 rfl ?_
    exact r_areta C hr dX2_formBehind_106 (by decide) (by decide) ⟨rfl, rfl, rfl⟩
  ·
    refine r_tsin (q := 125) (j := 2) C dX2_formBehind_1 (by omega) (by omega) (by decide) rfl (by decide) ?_
    refine r_ldcS (q := 127) (i := 7) C (by decide) dX2_formBehind_125 rfl ?_
    exact r_areta C hr dX2_formBehind_127 (by decide) (by decide) ⟨rfl, rfl, rfl⟩
  ·
    refine r_tsin (q := 125) (j := 3) C dX2_formBehind_1 (by omega) (by omega) (by decide) rfl (by decide) ?_
    refine r_ldcS (q := 127) (i := 7) C (by decide) dX2_formBehind_125 rfl ?_
    exact r_areta C hr dX2_formBehind_127 (by decide) (by decide) ⟨rfl, rfl, rfl⟩
  ·
    refine r_tsin (q := 125) (j := 4) C dX2_formBehind_1 (by omega) (by omega) (by decide) rfl (by decide) ?_
    refine r_ldcS (q := 127) (i := 7) C (by decide) dX2_formBehind_125 rfl ?_
    exact r_areta C hr dX2_formBehind_127 (by decide) (by decide) ⟨rfl, rfl, rfl⟩
  ·
    refine r_tsin (q := 125) (j := 5) C dX2_formBehind_1 (by omega) (by omega) (by decide) rfl (by decide) ?_
    refine r_ldcS (q := 127) (i := 7) C (by decide) dX2_formBehind_125 rfl ?_
    exact r_areta C hr dX2_formBehind_127 (by decide) (by decide) ⟨rfl, rfl, rfl⟩
  ·
    refine r_tsin (q := 125) (j := 6) C dX2_formBehind_1 (by omega) (by omega) (by decide) rfl (by decide) ?_
    refine r_ldcS (q := 127) (i := 7) C (by decide) dX2_formBehind_125 rfl ?_
    exact r_areta C hr dX2_formBehind_127 (by decide) (by decide) ⟨rfl, rfl, rfl⟩
  ·
    refine r_tsin (q := 107) (j := 7) C dX2_formBehind_1 (by omega) (by omega) (by decide) rfl (by decide) ?_
    refine r_ldcS (q := 109) (i := 1) C (by decide) dX2_formBehind_107 rfl ?_
    exact r_areta C hr dX2_formBehind_109 (by decide) (by decide) ⟨rfl, rfl, rfl⟩
  ·
    refine r_tsin (q := 125) (j := 8) C dX2_formBehind_1 (by omega) (by omega) (by decide) rfl (by decide) ?_
    refine r_ldcS (q := 127) (i := 7) C (by decide) dX2_formBehind_125 rfl ?_
    exact r_areta C hr dX2_formBehind_127 (by decide) (by decide) ⟨rfl, rfl, rfl⟩
  ·
    refine r_tsin (q := 125) (j := 9) C dX2_formBehind_1 (by omega) (by omega) (by decide) rfl (by decide) ?_
    refine r_ldcS (q := 127) (i := 7) C (by decide) dX2_formBehind_125 rfl ?_
    exact r_areta C hr dX2_formBehind_127 (by decide) (by decide) ⟨rfl, rfl, rfl⟩
  ·
    refine r_tsin (q := 119) (j := 10) C dX2_formBehind_1 (by omega) (by omega) (by decide) rfl (by decide) ?_
    refine r_ldcS (q := 121) (i := 5) C (by decide) dX2_formBehind_119 rfl ?_
    exact r_areta C hr dX2_formBehind_121 (by decide) (by decide) ⟨rfl, rfl, rfl⟩
  ·
    refine r_tsin (q := 125) (j := 11) C dX2_formBehind_1 (by omega) (by omega) (by decide) rfl (by decide) ?_
    refine r_ldcS (q := 127) (i := 7) C (by decide) dX2_formBehind_125 rfl ?_
    exact r_areta C hr dX2_formBehind_127 (by decide) (by decide) ⟨rfl, rfl, rfl⟩
  ·
    refine r_tsin (q := 125) (j := 12) C dX2_formBehind_1 (by omega) (by omega) (by decide) rfl (by decide) ?_
    refine r_ldcS (q := 127) (i := 7) C (by decide) dX2_formBehind_125 rfl ?_
    exact r_areta C hr dX2_formBehind_127 (by decide) (by decide) ⟨rfl, rfl, rfl⟩
  ·
    refine r_tsin (q := 125) (j := 13) C dX2_formBehind_1 (by omega) (by omega) (by decide) rfl (by decide) ?_
    refine r_ldcS (q := 127) (i := 7) C (by decide) dX2_formBehind_125 rfl ?_
    exact r_areta C hr dX2_formBehind_127 (by decide) (by decide) ⟨rfl, rfl, rfl⟩
  ·
    refine r_tsin (q := 125) (j := 14) C dX2_formBehind_1 (by omega) (by omega) (by decide) rfl (by decide) ?_
    refine r_ldcS (q := 127) (i := 7) C (by decide) dX2_formBehind_125 rfl ?_
    exact r_areta C hr dX2_formBehind_127 (by decide) (by decide) ⟨rfl, rfl, rfl⟩
  ·
    refine r_tsin (q := 125) (j := 15) C dX2_formBehind_1 (by omega) (by omega) (by decide) rfl (by decide) ?_
    refine r_ldcS (q := 127) (i := 7) C (by decide) dX2_formBehind_125 rfl ?_
    exact r_areta C hr dX2_formBehind_127 (by decide) (by decide) ⟨rfl, rfl, rfl⟩
  ·
    refine r_tsin (q := 122) (j := 16) C dX2_formBehind_1 (by omega) (by omega) (by decide) rfl (by decide) ?_
    refine r_ldcS (q := 124) (i := 6) C (by decide) dX2_formBehind_122 rfl ?_
    exact r_areta C hr dX2_formBehind_124 (by decide) (by decide) ⟨rfl, rfl, rfl⟩
  ·
    refine r_tsin (q := 125) (j := 17) C dX2_formBehind_1 (by omega) (by omega) (by decide) rfl (by decide) ?_
    refine r_ldcS (q := 127) (i := 7) C (by decide) dX2_formBehind_125 rfl ?_
    exact r_areta C hr dX2_formBehind_127 (by decide) (by decide) ⟨rfl, rfl, rfl⟩
  ·
    refine r_tsin (q := 113) (j := 18) C dX2_formBehind_1 (by omega) (by omega) (by decide) rfl (by decide) ?_
    refine r_ldcS (q := 115) (i := 3) C (by decide) dX2_formBehind_113 rfl ?_
    exact r_areta C hr dX2_formBehind_115 (by decide) (by decide) ⟨rfl, rfl, rfl⟩
  ·
    refine r_tsin (q := 125) (j := 19) C dX2_formBehind_1 (by omega) (by omega) (by decide) rfl (by decide) ?_
    refine r_ldcS (q := 127) (i := 7) C (by decide) dX2_formBehind_125 rfl ?_
    exact r_areta C hr dX2_formBehind_127 (by decide) (by decide) ⟨rfl, rfl, rfl⟩
  ·
    refine r_tsin (q := 125) (j := 20) C dX2_formBehind_1 (by omega) (by omega) (by decide) rfl (by decide) ?_
    refine r_ldcS (q := 127) (i := 7) C (by decide) dX2_formBehind_125 rfl ?_
    exact r_areta C hr dX2_formBehind_127 (by decide) (by decide) ⟨rfl, rfl, rfl⟩
  ·
    refine r_tsin (q := 110) (j := 21) C dX2_formBehind_1 (by omega) (by omega) (by decide) rfl (by decide) ?_
    refine r_ldcS (q := 112) (i := 2) C (by decide) dX2_formBehind_110 rfl ?_
    exact r_areta C hr dX2_formBehind_112 (by decide) (by decide) ⟨rfl, rfl, rfl⟩
  ·
    refine r_tsout (q := 125) C dX2_formBehind_1 (by omega) (by omega) (by decide) ?_
    refine r_ldcS (q := 127) (i := 7) C (by decide) dX2_formBehind_125 rfl ?_
    exact r_areta C hr dX2_formBehind_127 (by decide) (by decide) ⟨by rw [formIx_7 (by omega)], rfl, rfl⟩
theorem if_pos_dg {f : Nat → Int} {nI qx mx : Nat} {z2 : Int} (h : isDg f nI qx ↔ 0 ≤ z2) (hz : z2 < 0) : (((dgP f nI mx qx 0).1 : Nat) : Int) = (qx : Int) := by
  cases mx with
  | zero => rfl
  | succ k =>
    have hn : ¬ isDg f nI qx := fun hc => by have := h.mp hc; omega
    rw [dgP, if_neg hn]
set_option maxRecDepth 20000 in
set_option maxHeartbeats 8000000 in
theorem c_X2_parseCommand {T : oT} {σ : oM} {iC nI px : Nat} {f : Nat → Int} (hT2 : oTx T iC) {acc : List oCmd} (hPt : oPt σ iC nI f px acc) (hn60 : nI ≤ 60) (hpx : px ≤ nI) (hacc : acc.length ≤ px) (hsgr : ∀ jx, jx < nI → 32 ≤ f jx ∧ f jx ≤ 126) : MS yX2_parseCommand cX2_parseCommand 7 (some FieldType.boolean) 4 0 0 85 [og iC] T σ (oPB (fun σ2 => ∃ ns, pcP f nI px = ((pcP f nI px).1, some (f px, ns)) ∧ oPt σ2 iC nI f (pcP f nI px).1 (acc ++ [(f px, ns)]) ∧ oPfr σ σ2 iC) (fun σ2 => (pcP f nI px).2 = none ∧ oPt σ2 iC nI f (pcP f nI px).1 acc ∧ oPfr σ σ2 iC) T) := by
  have hTc := hT2
  obtain ⟨hI0, hIr0, hIr4, hIr5, hIs1, hIs2, hIs3, hIrw, hIT⟩ := hTc
  refine o_met (by decide +kernel) (Nat.le_of_ble_eq_true rfl) (fun p l ee s m args below meth c G b C hr hn => ?_)
  have C : oCx p s m args meth c G b RX2 cX2_parseCommand 7 := C
  show oW p l ee ({ frames := 4, cells := 0, slots := 0, locals := 85 } : Room) s m args below meth c G b 7 0 0 (MQ below (o_Qc G b (oPB (fun σ2 => ∃ ns, pcP f nI px = ((pcP f nI px).1, some (f px, ns)) ∧ oPt σ2 iC nI f (pcP f nI px).1 (acc ++ [(f px, ns)]) ∧ oPfr σ σ2 iC) (fun σ2 => (pcP f nI px).2 = none ∧ oPt σ2 iC nI f (pcP f nI px).1 acc ∧ oPfr σ σ2 iC) T)) args s 0 0 (fun q => b ≤ q)) T σ 0 [some (og iC), none, none, none, none, none, none] []
  refine r_al0 (q := 1) C dX2_parseCommand_0 rfl ?_
  refine r_getI (q := 4) C f_X2_30 dX2_parseCommand_1 rfl rfl (by assumption) (by omega) ?_
  rw [hPt.2.1]
  refine r_al0 (q := 5) C dX2_parseCommand_4 rfl ?_
  refine r_getI (q := 8) C f_X2_23 dX2_parseCommand_5 rfl rfl (by assumption) (by omega) ?_
  rw [hPt.1]
  refine r_iclt (q := 13) (q2 := 11) C (by omega) (by omega) dX2_parseCommand_8 (by decide) rfl (fun br8 => ?_) (fun br8 => ?_)
  · refine r_al0 (q := 14) C dX2_parseCommand_13 rfl ?_
    refine r_getR (q := 17) C f_X2_9 dX2_parseCommand_14 rfl rfl (by assumption) (by assumption) (by omega) ?_
    refine r_al0 (q := 18) C dX2_parseCommand_17 rfl ?_
    refine r_getI (q := 21) C f_X2_30 dX2_parseCommand_18 rfl rfl (by assumption) (by omega) ?_
    rw [hPt.2.1]
    have hfr := hsgr px (by omega)
    refine r_cald (q := 22) C (px) dX2_parseCommand_21 rfl (by assumption) (by omega) (by omega) (by omega) (by decide) ?_
    rw [hPt.2.2.2.1 px (by omega)]
    obtain ⟨i, hix⟩ : ∃ i, formIx (f px) = i := ⟨_, rfl⟩
    have hi : i < 8 := hix ▸ formIx_8 (f px)
    obtain ⟨sl1, sl2⟩ := slen_7 i hi
    obtain ⟨b1q, b2q, -⟩ := o_slen_b i hi
    refine r_is1 (q := 23) C dX2_parseCommand_22 rfl (by decide) ?_
    refine r_il1 (q := 24) C dX2_parseCommand_23 rfl ?_
    refine r_callG (q := 27) (As := [oi (f px)]) C (c_X2_formBehind (by omega) hix) m_X2_41x dX2_parseCommand_24 rfl rfl (by decide) (by decide) (Nat.le_of_ble_eq_true rfl) (fun r2 T2 σ2 hq2 => ?_)
    rw [hq2.1, hq2.2.1, hq2.2.2]
    clear hq2
    refine r_aas2 (q := 28) C dX2_parseCommand_27 rfl (by decide) ?_
    refine r_aal2 (q := 29) C dX2_parseCommand_28 rfl ?_
    refine r_callA (q := 32) C hi (As := []) (c_J0_isEmpty_aae02 hi) m_X2_45 dX2_parseCommand_29 rfl rfl (by decide) (by decide) (Nat.le_of_ble_eq_true rfl) (fun r2 T2 σ2 hq2 => ?_)
    rw [hq2.1, hq2.2.1, hq2.2.2]
    clear hq2
    refine r_ifeq (q := 37) (q2 := 35) C (by split <;> omega) dX2_parseCommand_32 (by decide) rfl (fun br32 => ?_) (fun br32 => ?_)
    · have hz0 : o_slen.getD i 0 ≠ 0 := fun hc => by
        rw [if_pos hc] at br32
        exact absurd br32 (by decide)
      have hi7 := sl2 hz0
      have hpc0 : pcP f nI px = ((prP f nI (o_sch.getD i []) (px + 1) []).1, (prP f nI (o_sch.getD i []) (px + 1) []).2.map (fun ns => (f px, ns))) := by rw [pcP, hix, if_pos ⟨by omega, hi7⟩]
      refine r_al0 (q := 38) C dX2_parseCommand_37 rfl ?_
      refine r_dup (q := 39) C dX2_parseCommand_38 rfl ?_
      refine r_getI (q := 42) C f_X2_30 dX2_parseCommand_39 rfl rfl (by assumption) (by omega) ?_
      rw [hPt.2.1]
      refine r_iconst (q := 43) C dX2_parseCommand_42 rfl ?_
      refine r_iadd (q := 44) C dX2_parseCommand_43 rfl ?_
      refine r_putI (q := 47) C fp_X2_30 dX2_parseCommand_44 rfl rfl (by assumption) (by omega) ?_
      refine r_al0 (q := 48) C dX2_parseCommand_47 rfl ?_
      refine r_getR (q := 51) C f_X2_15 dX2_parseCommand_48 rfl rfl (by assumption) (by assumption) (by omega) ?_
      refine r_al0 (q := 52) C dX2_parseCommand_51 rfl ?_
      refine r_getI (q := 55) C f_X2_27 dX2_parseCommand_52 rfl rfl (by assumption) (by omega) ?_
      refine r_il1 (q := 56) C dX2_parseCommand_55 rfl ?_
      rw [o_up_nj (Or.inr (by decide)), hPt.2.2.1]
      refine r_cast (q := 57) C (acc.length) dX2_parseCommand_56 rfl (by assumption) (by omega) (by omega) (by omega) (by decide) (by omega) ?_
      refine r_iconst (q := 58) C dX2_parseCommand_57 rfl ?_
      refine r_is3 (q := 59) C dX2_parseCommand_58 rfl (by decide) ?_
      refine r_iconst (q := 60) C dX2_parseCommand_59 rfl ?_
      refine r_is4 (q := 62) C dX2_parseCommand_60 rfl (by decide) ?_
      have lp : ∀ (n : Nat) (σ1 : oM) (ix qx : Nat) (ns : List Int) (w5 w6 : Option oV), o_slen.getD i 0 - ix < n → (ix ≤ o_slen.getD i 0) → (oPq σ σ1 iC acc.length qx (f px) ns) → (prP f nI (o_sch.getD i []) (px + 1) [] = prP f nI ((o_sch.getD i []).drop ix) qx ns) → (ns.length = nctP i ix) → (qx ≤ nI) → oW p l ee ({ frames := 4, cells := 0, slots := 0, locals := 85 } : Room) s m args below meth c G b 7 0 0 (MQ below (o_Qc G b (oPB (fun σ2 => ∃ ns, pcP f nI px = ((pcP f nI px).1, some (f px, ns)) ∧ oPt σ2 iC nI f (pcP f nI px).1 (acc ++ [(f px, ns)]) ∧ oPfr σ σ2 iC) (fun σ2 => (pcP f nI px).2 = none ∧ oPt σ2 iC nI f (pcP f nI px).1 acc ∧ oPfr σ σ2 iC) T)) args s 0 0 (fun q => b ≤ q)) T σ1 62 [some (og iC), some (oi (f px)), some (oa (G.2.2.1 i)), some (oi ((ns.length : Nat) : Int)), some (oi ((ix : Nat) : Int)), w5, w6] [] := by
        intro n
        induction n with
        | zero =>
          intro σ1 ix qx ns w5 w6 hms
          exact absurd hms (Nat.not_lt_zero _)
        | succ n ih =>
          intro σ1 ix qx ns w5 w6 hms h1 h2 h3 h4 h5
          refine r_il4 (q := 64) C dX2_parseCommand_62 rfl ?_
          refine r_aal2 (q := 65) C dX2_parseCommand_64 rfl ?_
          refine r_callA (q := 68) C hi (As := []) (c_J0_length_8abf5 hi) m_X2_50 dX2_parseCommand_65 rfl rfl (by decide) (by decide) (Nat.le_of_ble_eq_true rfl) (fun r2 T2 σ2 hq2 => ?_)
          rw [hq2.1, hq2.2.1, hq2.2.2]
          clear hq2
          have hln1 : σ1 iC 1 = (nI : Int) := by rw [h2.2.1 1 (by decide)]; exact hPt.1
          have hcm1 : σ1 iC 3 = (acc.length : Int) := by rw [h2.2.1 3 (by decide)]; exact hPt.2.2.1
          have hsg1 : ∀ jx, jx < nI → σ1 (iC + 1) jx = f jx ∧ 32 ≤ f jx ∧ f jx ≤ 126 := fun jx hj => ⟨by rw [h2.2.2.2.2.2 (iC + 1) (by omega) (by omega) (by omega)]; exact hPt.2.2.2.1 jx hj, hsgr jx hj⟩
          refine r_icge (q := 151) (q2 := 71) C (by omega) (by omega) dX2_parseCommand_68 (by decide) rfl (fun br68 => ?_) (fun br68 => ?_)
          · have hpr : prP f nI (o_sch.getD i []) (px + 1) [] = (qx, some ns) := by rw [h3, List.drop_eq_nil_of_le (by omega)]; rfl
            have hpc : pcP f nI px = (qx, some (f px, ns)) := by rw [hpc0, hpr]; rfl
            refine r_al0 (q := 152) C dX2_parseCommand_151 rfl ?_
            refine r_dup (q := 153) C dX2_parseCommand_152 rfl ?_
            refine r_getI (q := 156) C f_X2_27 dX2_parseCommand_153 rfl rfl (by assumption) (by omega) ?_
            rw [hcm1]
            refine r_iconst (q := 157) C dX2_parseCommand_156 rfl ?_
            refine r_iadd (q := 158) C dX2_parseCommand_157 rfl ?_
            refine r_putI (q := 161) C fp_X2_27 dX2_parseCommand_158 rfl rfl (by assumption) (by omega) ?_
            refine r_iconst (q := 162) C dX2_parseCommand_161 rfl ?_
            refine r_zret C hr dX2_parseCommand_162 (by decide) (by decide) (by decide) ?_
            have hg := oPq_good hPt (by omega) h2
            exact ⟨rfl, Or.inl ⟨rfl, ns, by rw [hpc], by rw [hpc]; exact hg.1, hg.2⟩⟩
          · have hlt : ix < (o_sch.getD i []).length := by omega
            have hdr := drop_s hlt
            obtain ⟨-, -, c3q, c4q⟩ := o_sch_b i hi ix (by omega) (by omega)
            obtain ⟨n1q, n2q⟩ := nctP_s i hi ix (by omega) (by omega)
            refine r_aal2 (q := 72) C dX2_parseCommand_71 rfl ?_
            refine r_il4 (q := 74) C dX2_parseCommand_72 rfl ?_
            refine r_callA (q := 77) C hi (As := [oi ((ix : Nat) : Int)]) (c_J0_charAt_5068e hi (by omega)) m_X2_53 dX2_parseCommand_74 rfl rfl (by decide) (by decide) (Nat.le_of_ble_eq_true rfl) (fun r2 T2 σ2 hq2 => ?_)
            rw [hq2.1, hq2.2.1, hq2.2.2]
            clear hq2
            refine r_is5 (q := 79) C dX2_parseCommand_77 rfl (by decide) ?_
            refine r_il5 (q := 81) C dX2_parseCommand_79 rfl ?_
            refine r_bipush (q := 83) C dX2_parseCommand_81 (by decide) rfl ?_
            refine r_iceq (q := 104) (q2 := 86) C (by omega) (by omega) dX2_parseCommand_83 (by decide) rfl (fun br83 => ?_) (fun br83 => ?_)
            · refine r_al0 (q := 105) C dX2_parseCommand_104 rfl ?_
              refine r_il5 (q := 107) C dX2_parseCommand_105 rfl ?_
              refine r_bipush (q := 109) C dX2_parseCommand_107 (by decide) rfl ?_
              refine r_icne (q := 116) (q2 := 112) C (by omega) (by omega) dX2_parseCommand_109 (by decide) rfl (fun br109 => ?_) (fun br109 => ?_)
              · exfalso
                omega
              · refine r_iconst (q := 113) C dX2_parseCommand_112 rfl ?_
                refine r_goto (q := 117) C dX2_parseCommand_113 (by decide) ?_
                refine r_callVs (q := 120) C (c_X2_parseNumber (px := qx) (mx := 1) (nI := nI) (f := f) hT2 hln1 hn60 h2.1 h5 hsg1 (by omega)) m_X2_57 (by assumption) (by omega) dX2_parseCommand_117 rfl rfl (by decide) (by decide) (Nat.le_of_ble_eq_true rfl) (fun z2 σ2 hσ2 => ?_)
                obtain ⟨hz2, hσ2e, hzr⟩ := hσ2
                have hz2n : isDg f nI qx ↔ 0 ≤ z2 := by
                  by_cases hc : isDg f nI qx
                  · rw [if_pos hc] at hz2
                    exact ⟨fun _ => hz2 ▸ dgP_nn _ _ _ (Int.le_refl 0), fun _ => hc⟩
                  · rw [if_neg hc] at hz2
                    exact ⟨fun h => absurd h hc, fun h => by omega⟩
                refine r_is6 (q := 122) C dX2_parseCommand_120 rfl (by decide) ?_
                refine r_il6 (q := 124) C dX2_parseCommand_122 rfl ?_
                refine r_ifge (q := 129) (q2 := 127) C (by omega) dX2_parseCommand_124 (by decide) rfl (fun br124 => ?_) (fun br124 => ?_)
                · have hid := hz2n.mpr br124
                  rw [if_pos hid] at hz2
                  have hq2 := oPq_at (rx := (dgP f nI 1 qx 0).1) h2
                  rw [← hσ2e] at hq2
                  have hcm2 : σ2 iC 3 = (acc.length : Int) := by rw [hq2.2.1 3 (by decide)]; exact hPt.2.2.1
                  have hq3 := oPq_n (v := z2) hq2
                  rw [if_pos (show ((o_sch.getD i []).getD ix 0) = 100 ∨ ((o_sch.getD i []).getD ix 0) = 110 by omega)] at n1q n2q
                  refine r_al0 (q := 130) C dX2_parseCommand_129 rfl ?_
                  refine r_getR (q := 133) C f_X2_20 dX2_parseCommand_130 rfl rfl (by assumption) (by assumption) (by omega) ?_
                  refine r_al0 (q := 134) C dX2_parseCommand_133 rfl ?_
                  refine r_getI (q := 137) C f_X2_27 dX2_parseCommand_134 rfl rfl (by assumption) (by omega) ?_
                  rw [hcm2]
                  have hrk := (hIrw acc.length (by omega)).2
                  refine r_aald (q := 138) C (acc.length) dX2_parseCommand_137 rfl (by assumption) (by omega) (by omega) (by omega) (by decide) ((hIrw acc.length (by omega)).1) rfl rfl (by decide) (by decide) ?_
                  refine r_il3 (q := 139) C dX2_parseCommand_138 rfl ?_
                  refine r_il6 (q := 141) C dX2_parseCommand_139 rfl ?_
                  refine r_iast (q := 142) C (ns.length) dX2_parseCommand_141 rfl (by assumption) (by omega) (by omega) (by omega) (by decide) ?_
                  refine r_iinc3 (q := 145) C dX2_parseCommand_142 rfl (by decide) ?_
                  refine r_iinc4 (q := 148) C dX2_parseCommand_145 rfl (by decide) ?_
                  refine r_goto (q := 62) C dX2_parseCommand_148 (by decide) ?_
                  rw [show ((ns.length : Nat) : Int) + 1 = (((ns ++ [z2]).length : Nat) : Int) by rw [List.length_append]; rfl]
                  exact ih _ (ix + 1) (dgP f nI 1 qx 0).1 (ns ++ [z2]) _ _ (by omega) (by omega) hq3 (by rw [h3, hdr, prP, if_pos (show ((o_sch.getD i []).getD ix 0) = 100 ∨ ((o_sch.getD i []).getD ix 0) = 110 by omega), if_pos hid, show (if ((o_sch.getD i []).getD ix 0) = 100 then 1 else 4) = 1 by rw [if_pos (by omega)], ← hz2]) (by rw [List.length_append, List.length_cons, List.length_nil]; omega) ((dgP_le 1 qx 0).2 h5)
                · refine r_iconst (q := 128) C dX2_parseCommand_127 rfl ?_
                  refine r_zret C hr dX2_parseCommand_128 (by decide) (by decide) (by decide) ?_
                  have hpr : prP f nI (o_sch.getD i []) (px + 1) [] = (qx, none) := by rw [h3, hdr, prP, if_pos (show ((o_sch.getD i []).getD ix 0) = 100 ∨ ((o_sch.getD i []).getD ix 0) = 110 by omega), if_neg (fun hc => by have := hz2n.mp hc; omega)]
                  have hpc : pcP f nI px = (qx, none) := by rw [hpc0, hpr]; rfl
                  have hb := oPq_bad hPt (by omega) (show oPq σ σ2 iC acc.length qx (f px) ns by rw [hσ2e, if_pos_dg hz2n br124]; exact oPq_at h2)
                  exact ⟨rfl, Or.inr ⟨rfl, by rw [hpc], by rw [hpc]; exact hb.1, hb.2⟩⟩
            · refine r_il5 (q := 88) C dX2_parseCommand_86 rfl ?_
              refine r_bipush (q := 90) C dX2_parseCommand_88 (by decide) rfl ?_
              refine r_iceq (q := 104) (q2 := 93) C (by omega) (by omega) dX2_parseCommand_90 (by decide) rfl (fun br90 => ?_) (fun br90 => ?_)
              · refine r_al0 (q := 105) C dX2_parseCommand_104 rfl ?_
                refine r_il5 (q := 107) C dX2_parseCommand_105 rfl ?_
                refine r_bipush (q := 109) C dX2_parseCommand_107 (by decide) rfl ?_
                refine r_icne (q := 116) (q2 := 112) C (by omega) (by omega) dX2_parseCommand_109 (by decide) rfl (fun br109 => ?_) (fun br109 => ?_)
                · refine r_iconst (q := 117) C dX2_parseCommand_116 rfl ?_
                  refine r_callVs (q := 120) C (c_X2_parseNumber (px := qx) (mx := 4) (nI := nI) (f := f) hT2 hln1 hn60 h2.1 h5 hsg1 (by omega)) m_X2_57 (by assumption) (by omega) dX2_parseCommand_117 rfl rfl (by decide) (by decide) (Nat.le_of_ble_eq_true rfl) (fun z2 σ2 hσ2 => ?_)
                  obtain ⟨hz2, hσ2e, hzr⟩ := hσ2
                  have hz2n : isDg f nI qx ↔ 0 ≤ z2 := by
                    by_cases hc : isDg f nI qx
                    · rw [if_pos hc] at hz2
                      exact ⟨fun _ => hz2 ▸ dgP_nn _ _ _ (Int.le_refl 0), fun _ => hc⟩
                    · rw [if_neg hc] at hz2
                      exact ⟨fun h => absurd h hc, fun h => by omega⟩
                  refine r_is6 (q := 122) C dX2_parseCommand_120 rfl (by decide) ?_
                  refine r_il6 (q := 124) C dX2_parseCommand_122 rfl ?_
                  refine r_ifge (q := 129) (q2 := 127) C (by omega) dX2_parseCommand_124 (by decide) rfl (fun br124 => ?_) (fun br124 => ?_)
                  · have hid := hz2n.mpr br124
                    rw [if_pos hid] at hz2
                    have hq2 := oPq_at (rx := (dgP f nI 4 qx 0).1) h2
                    rw [← hσ2e] at hq2
                    have hcm2 : σ2 iC 3 = (acc.length : Int) := by rw [hq2.2.1 3 (by decide)]; exact hPt.2.2.1
                    have hq3 := oPq_n (v := z2) hq2
                    rw [if_pos (show ((o_sch.getD i []).getD ix 0) = 100 ∨ ((o_sch.getD i []).getD ix 0) = 110 by omega)] at n1q n2q
                    refine r_al0 (q := 130) C dX2_parseCommand_129 rfl ?_
                    refine r_getR (q := 133) C f_X2_20 dX2_parseCommand_130 rfl rfl (by assumption) (by assumption) (by omega) ?_
                    refine r_al0 (q := 134) C dX2_parseCommand_133 rfl ?_
                    refine r_getI (q := 137) C f_X2_27 dX2_parseCommand_134 rfl rfl (by assumption) (by omega) ?_
                    rw [hcm2]
                    have hrk := (hIrw acc.length (by omega)).2
                    refine r_aald (q := 138) C (acc.length) dX2_parseCommand_137 rfl (by assumption) (by omega) (by omega) (by omega) (by decide) ((hIrw acc.length (by omega)).1) rfl rfl (by decide) (by decide) ?_
                    refine r_il3 (q := 139) C dX2_parseCommand_138 rfl ?_
                    refine r_il6 (q := 141) C dX2_parseCommand_139 rfl ?_
                    refine r_iast (q := 142) C (ns.length) dX2_parseCommand_141 rfl (by assumption) (by omega) (by omega) (by omega) (by decide) ?_
                    refine r_iinc3 (q := 145) C dX2_parseCommand_142 rfl (by decide) ?_
                    refine r_iinc4 (q := 148) C dX2_parseCommand_145 rfl (by decide) ?_
                    refine r_goto (q := 62) C dX2_parseCommand_148 (by decide) ?_
                    rw [show ((ns.length : Nat) : Int) + 1 = (((ns ++ [z2]).length : Nat) : Int) by rw [List.length_append]; rfl]
                    exact ih _ (ix + 1) (dgP f nI 4 qx 0).1 (ns ++ [z2]) _ _ (by omega) (by omega) hq3 (by rw [h3, hdr, prP, if_pos (show ((o_sch.getD i []).getD ix 0) = 100 ∨ ((o_sch.getD i []).getD ix 0) = 110 by omega), if_pos hid, show (if ((o_sch.getD i []).getD ix 0) = 100 then 1 else 4) = 4 by rw [if_neg (by omega)], ← hz2]) (by rw [List.length_append, List.length_cons, List.length_nil]; omega) ((dgP_le 4 qx 0).2 h5)
                  · refine r_iconst (q := 128) C dX2_parseCommand_127 rfl ?_
                    refine r_zret C hr dX2_parseCommand_128 (by decide) (by decide) (by decide) ?_
                    have hpr : prP f nI (o_sch.getD i []) (px + 1) [] = (qx, none) := by rw [h3, hdr, prP, if_pos (show ((o_sch.getD i []).getD ix 0) = 100 ∨ ((o_sch.getD i []).getD ix 0) = 110 by omega), if_neg (fun hc => by have := hz2n.mp hc; omega)]
                    have hpc : pcP f nI px = (qx, none) := by rw [hpc0, hpr]; rfl
                    have hb := oPq_bad hPt (by omega) (show oPq σ σ2 iC acc.length qx (f px) ns by rw [hσ2e, if_pos_dg hz2n br124]; exact oPq_at h2)
                    exact ⟨rfl, Or.inr ⟨rfl, by rw [hpc], by rw [hpc]; exact hb.1, hb.2⟩⟩
                · exfalso
                  omega
              · refine r_al0 (q := 94) C dX2_parseCommand_93 rfl ?_
                refine r_il5 (q := 96) C dX2_parseCommand_94 rfl ?_
                refine r_callVB (q := 99) C (c_X2_accept (px := qx) (cx := ((o_sch.getD i []).getD ix 0)) (nI := nI) (f := f) hT2 hln1 hn60 h2.1 h5 hsg1 (by omega)) m_X2_37 (by assumption) (by omega) dX2_parseCommand_96 rfl rfl (by decide) (by decide) (Nat.le_of_ble_eq_true rfl) (fun σ2 hσ2 => ?_) (fun σ2 hσ2 => ?_)
                · refine r_ifne_t (q := 145) C (by decide) (by omega) dX2_parseCommand_99 (by decide) ?_
                  obtain ⟨⟨g1, g2⟩, rfl⟩ := hσ2
                  have hnd : ¬ (((o_sch.getD i []).getD ix 0) = 100 ∨ ((o_sch.getD i []).getD ix 0) = 110) := by omega
                  rw [if_neg hnd] at n1q n2q
                  refine r_iinc4 (q := 148) C dX2_parseCommand_145 rfl (by decide) ?_
                  refine r_goto (q := 62) C dX2_parseCommand_148 (by decide) ?_
                  exact ih _ (ix + 1) (qx + 1) ns _ _ (by omega) (by omega) (oPq_at h2) (by rw [h3, hdr, prP, if_neg hnd, if_pos ⟨g1, g2⟩]) (by omega) (by omega)
                · refine r_ifne_f (q := 145) (q2 := 102) C (by decide) (by omega) dX2_parseCommand_99 (by decide) rfl ?_
                  refine r_iconst (q := 103) C dX2_parseCommand_102 rfl ?_
                  obtain ⟨hno, rfl⟩ := hσ2
                  refine r_zret C hr dX2_parseCommand_103 (by decide) (by decide) (by decide) ?_
                  have hpr : prP f nI (o_sch.getD i []) (px + 1) [] = (qx, none) := by rw [h3, hdr, prP, if_neg (show ¬ (((o_sch.getD i []).getD ix 0) = 100 ∨ ((o_sch.getD i []).getD ix 0) = 110) by omega), if_neg hno]
                  have hpc : pcP f nI px = (qx, none) := by rw [hpc0, hpr]; rfl
                  have hb := oPq_bad hPt (by omega) h2
                  exact ⟨rfl, Or.inr ⟨rfl, by rw [hpc], by rw [hpc]; exact hb.1, hb.2⟩⟩
      exact lp _ _ 0 (px + 1) [] none none (Nat.lt_succ_self _) (Nat.zero_le _) ⟨by rw [o_up_ne (by omega), o_up_at]; rfl, fun k hk => by rw [o_up_ne (by omega), o_up_nj (Or.inr hk)], o_up_at, fun j hj => by rw [o_up_nj (Or.inr hj), o_up_ne (by omega)], fun j v hv => by simp at hv, fun x x1 x2 x3 => by rw [o_up_ne x2, o_up_ne x1]⟩ rfl rfl (by omega)
    · refine r_iconst (q := 36) C dX2_parseCommand_35 rfl ?_
      refine r_zret C hr dX2_parseCommand_36 (by decide) (by decide) (by decide) ?_
      have hz0 : o_slen.getD i 0 = 0 := by
        by_cases hc : o_slen.getD i 0 = 0
        · exact hc
        · rw [if_neg hc] at br32
          exact absurd rfl br32
      have hpc : pcP f nI px = (px, none) := by rw [pcP, if_neg (fun hc => by have := sl1 hz0; omega)]
      exact ⟨rfl, Or.inr ⟨rfl, by rw [hpc], by rw [hpc]; exact hPt, fun _ _ => rfl, rfl, fun _ _ _ => rfl⟩⟩
  · refine r_iconst (q := 12) C dX2_parseCommand_11 rfl ?_
    refine r_zret C hr dX2_parseCommand_12 (by decide) (by decide) (by decide) ?_
    have hpc : pcP f nI px = (px, none) := by rw [pcP, if_neg (fun hc => by omega)]
    exact ⟨rfl, Or.inr ⟨rfl, by rw [hpc], by rw [hpc]; exact hPt, fun _ _ => rfl, rfl, fun _ _ _ => rfl⟩⟩
