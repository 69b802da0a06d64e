theorem drop_c {l : List oCmd} {ix : Nat} {c : oCmd} (h : l[ix]? = some c) : l.drop ix = c :: l.drop (ix + 1) := by
  have hk := (List.getElem?_eq_some_iff.mp h).1
  rw [List.drop_eq_getElem_cons hk]
  have h2 : l[ix]'hk = c := (List.getElem?_eq_some_iff.mp h).2
  rw [h2]
theorem paP_len {f : Nat → Int} {nI : Nat} : ∀ (k px : Nat) (acc : List oCmd), acc.length ≤ px → px ≤ nI → (paP f nI k px acc).2.length ≤ nI
  | 0, px, acc, h, h2 => Nat.le_trans h h2
  | k + 1, px, acc, h, h2 => by
    have hle := pcP_le (f := f) (nI := nI) (px := px)
    rcases hq : pcP f nI px with ⟨qx, oc2⟩
    cases oc2 with
    | none =>
      rw [paP_bad (by rw [hq])]
      exact Nat.le_trans h h2
    | some c =>
      rw [hq] at hle
      have h3 := hle.2.2 (fun hc => by cases hc)
      have h4 := hle.2.1 h2
      have hl : (acc ++ [c]).length = acc.length + 1 := by rw [List.length_append]; rfl
      rw [paP_ok hq]
      by_cases h1 : nI ≤ qx
      · rw [if_pos h1]
        show (acc ++ [c]).length ≤ nI
        omega
      · rw [if_neg h1]
        by_cases h5 : f qx = 59
        · rw [if_pos h5]
          exact paP_len k (qx + 1) _ (by omega) (by omega)
        · rw [if_neg h5]
          show (acc ++ [c]).length ≤ nI
          omega
theorem oCh_tr {σ σ1 σ2 : oM} {xC : Nat} {A1 A2 : Nat → Int} {r1 r2 : Int} (h1 : oCh σ σ1 xC A1 r1) (h2 : oCh σ1 σ2 xC A2 r2) : oCh σ σ2 xC A2 r2 := ⟨h2.1, fun x x1 x2 => (h2.2.1 x x1 x2).trans (h1.2.1 x x1 x2), fun k hk => (h2.2.2.1 k hk).trans (h1.2.2.1 k hk), h2.2.2.2⟩
theorem fDo_r {Bd rf : Int} {A : Nat → Int} {c : oCmd} (h : oI Bd A) : o_r (fDo A rf c).1 := by
  unfold fDo
  by_cases c1 : c.1 = 99
  · rw [if_pos c1]
    exact fCut_r h
  · rw [if_neg c1]
    by_cases c2 : c.1 = 105
    · rw [if_pos c2]
      exact fIns_r h
    · rw [if_neg c2]
      by_cases c3 : c.1 = 119
      · rw [if_pos c3]
        exact fRew_r h
      · rw [if_neg c3]
        by_cases c4 : c.1 = 116
        · rw [if_pos c4]
          exact fTempo_r h
        · rw [if_neg c4]
          by_cases c5 : c.1 = 98
          · rw [if_pos c5]
            exact fBow_r h
          · rw [if_neg c5]
            by_cases c6 : c.1 = 108
            · rw [if_pos c6]
              exact fLend_r h
            · rw [if_neg c6]
              exact fBring_r
theorem okC_c {cl : Int} {ns : List Int} (h : okC (cl, ns)) : (cl = 99 ∧ ns.length = 3) ∨ (cl = 105 ∧ ns.length = 4) ∨ (cl = 119 ∧ ns.length = 3) ∨ (cl = 116 ∧ ns.length = 3) ∨ (cl = 98 ∧ ns.length = 4) ∨ (cl = 108 ∧ ns.length = 5) ∨ (cl = 114 ∧ ns.length = 3) := by
  obtain ⟨h1, h2, -⟩ := h
  by_cases c1 : cl = 99
  · subst c1
    exact Or.inl ⟨rfl, h2⟩
  · by_cases c2 : cl = 105
    · subst c2
      exact Or.inr (Or.inl ⟨rfl, h2⟩)
    · by_cases c3 : cl = 119
      · subst c3
        exact Or.inr (Or.inr (Or.inl ⟨rfl, h2⟩))
      · by_cases c4 : cl = 116
        · subst c4
          exact Or.inr (Or.inr (Or.inr (Or.inl ⟨rfl, h2⟩)))
        · by_cases c5 : cl = 98
          · subst c5
            exact Or.inr (Or.inr (Or.inr (Or.inr (Or.inl ⟨rfl, h2⟩))))
          · by_cases c6 : cl = 108
            · subst c6
              exact Or.inr (Or.inr (Or.inr (Or.inr (Or.inr (Or.inl ⟨rfl, h2⟩)))))
            · by_cases c7 : cl = 114
              · subst c7
                exact Or.inr (Or.inr (Or.inr (Or.inr (Or.inr (Or.inr ⟨rfl, h2⟩)))))
              · have h3 : formIx cl < 7 := h1
                rw [formIx, if_neg c1, if_neg c2, if_neg c3, if_neg c4, if_neg c5, if_neg c6, if_neg c7] at h3
                exact absurd h3 (by decide)
theorem fDo_99 {A : Nat → Int} {rf : Int} {ns : List Int} : fDo A rf (99, ns) = fCut A rf (ns.getD 0 0) (ns.getD 1 0) (ns.getD 2 0) := by
  unfold fDo
  rw [if_pos rfl]
theorem fDo_105 {A : Nat → Int} {rf : Int} {ns : List Int} : fDo A rf (105, ns) = fIns A rf (ns.getD 0 0) (ns.getD 1 0) (ns.getD 2 0) (ns.getD 3 0) := by
  unfold fDo
  rw [if_neg (show ¬ (105 : Int) = 99 by decide), if_pos rfl]
theorem fDo_119 {A : Nat → Int} {rf : Int} {ns : List Int} : fDo A rf (119, ns) = fRew A rf (ns.getD 0 0) (ns.getD 1 0) (ns.getD 2 0) := by
  unfold fDo
  rw [if_neg (show ¬ (119 : Int) = 99 by decide), if_neg (show ¬ (119 : Int) = 105 by decide), if_pos rfl]
theorem fDo_116 {A : Nat → Int} {rf : Int} {ns : List Int} : fDo A rf (116, ns) = ((fTempo A (ns.getD 0 0) (ns.getD 1 0) (ns.getD 2 0)).1, (fTempo A (ns.getD 0 0) (ns.getD 1 0) (ns.getD 2 0)).2, rf) := by
  unfold fDo
  rw [if_neg (show ¬ (116 : Int) = 99 by decide), if_neg (show ¬ (116 : Int) = 105 by decide), if_neg (show ¬ (116 : Int) = 119 by decide), if_pos rfl]
theorem fDo_98 {A : Nat → Int} {rf : Int} {ns : List Int} : fDo A rf (98, ns) = ((fBow A (ns.getD 0 0) (ns.getD 1 0) (ns.getD 2 0) (ns.getD 3 0)).1, (fBow A (ns.getD 0 0) (ns.getD 1 0) (ns.getD 2 0) (ns.getD 3 0)).2, rf) := by
  unfold fDo
  rw [if_neg (show ¬ (98 : Int) = 99 by decide), if_neg (show ¬ (98 : Int) = 105 by decide), if_neg (show ¬ (98 : Int) = 119 by decide), if_neg (show ¬ (98 : Int) = 116 by decide), if_pos rfl]
theorem fDo_108 {A : Nat → Int} {rf : Int} {ns : List Int} : fDo A rf (108, ns) = fLend A rf (ns.getD 0 0) (ns.getD 1 0) (ns.getD 2 0) (ns.getD 3 0) (ns.getD 4 0) := by
  unfold fDo
  rw [if_neg (show ¬ (108 : Int) = 99 by decide), if_neg (show ¬ (108 : Int) = 105 by decide), if_neg (show ¬ (108 : Int) = 119 by decide), if_neg (show ¬ (108 : Int) = 116 by decide), if_neg (show ¬ (108 : Int) = 98 by decide), if_pos rfl]
theorem fDo_114 {A : Nat → Int} {rf : Int} {ns : List Int} : fDo A rf (114, ns) = fBring A rf (ns.getD 0 0) (ns.getD 1 0) (ns.getD 2 0) := by
  unfold fDo
  rw [if_neg (show ¬ (114 : Int) = 99 by decide), if_neg (show ¬ (114 : Int) = 105 by decide), if_neg (show ¬ (114 : Int) = 119 by decide), if_neg (show ¬ (114 : Int) = 116 by decide), if_neg (show ¬ (114 : Int) = 98 by decide), if_neg (show ¬ (114 : Int) = 108 by decide)]
set_option maxRecDepth 20000 in
set_option maxHeartbeats 8000000 in
theorem c_X8_carryOut {T : oT} {σ : oM} {xC : Nat} {A : Nat → Int} {Bd : Int} (hX : oX T xC) (hR : oHR σ (xC + 1) A) (hI : oI Bd A) (hBd : Bd ≤ 99990000) (hT2 : oTx T (xC + 1163)) {kN : Nat} {cl : Int} {ns : List Int} (hkN : kN < 60) (hok : okC (cl, ns)) (hc1 : σ (xC + 1163 + 2) kN = cl) (hc2 : ∀ (jx : Nat) (v : Int), ns[jx]? = some v → σ (xC + 1163 + 4 + kN) jx = v) : MS yX8_carryOut cX8_carryOut 3 (some FieldType.int) 4 0 0 103 [og xC, oi ((kN : Nat) : Int)] T σ (oPs (fun zx σ2 => zx = (fDo A (σ xC 10) (cl, ns)).1 ∧ oCh σ σ2 xC (fDo A (σ xC 10) (cl, ns)).2.1 (fDo A (σ xC 10) (cl, ns)).2.2) T) := by
  have hXc := hX
  obtain ⟨hX0, hXr0, hXr1, hXr2, hXr3, hXr4, hXr5, hXr6, hXn, hXs, hXy, hXq, hXk, hXb, hXbs, hXi, hXT⟩ := hXc
  have hHc := hXn
  obtain ⟨hH0, hH1, hH2, hH3, hH4, hH6, hG1, hG80, hG81, hG82, hG83, hEs, hLs, hHT⟩ := hHc
  have hRc := hR
  obtain ⟨hR0, hR5, hR7, hRw8, hRp, hRl, hRe⟩ := hRc
  have hIn := oI_n hI
  have hIc := hI
  obtain ⟨hI1, hI2, hI3, hI4, hI5, hI6, hI7, hI8, -⟩ := hIc
  have hTc := hT2
  obtain ⟨hJ0, hJr0, hJr4, hJr5, hJs1, hJs2, hJs3, hJrw, hJT⟩ := hTc
  have hg : ∀ jx, jx < ns.length → σ (xC + 1163 + 4 + kN) jx = ns.getD jx 0 ∧ 0 ≤ ns.getD jx 0 ∧ ns.getD jx 0 ≤ 9999 := fun jx hj => by
    have e1 : ns[jx]? = some (ns[jx]'hj) := List.getElem?_eq_getElem hj
    have e2 : ns.getD jx 0 = ns[jx]'hj := by rw [List.getD_eq_getElem?_getD, e1]; rfl
    rw [e2]
    exact ⟨hc2 jx _ e1, hok.2.2 _ (List.getElem_mem hj)⟩
  refine o_met (by decide +kernel) (Nat.le_of_ble_eq_true rfl) (fun p l ee s m args below meth c G b C hr hn => ?_)
  have C : oCx p s m args meth c G b RX8 cX8_carryOut 3 := C
  show oW p l ee ({ frames := 4, cells := 0, slots := 0, locals := 103 } : Room) s m args below meth c G b 3 0 0 (MQ below (o_Qc G b (oPs (fun zx σ2 => zx = (fDo A (σ xC 10) (cl, ns)).1 ∧ oCh σ σ2 xC (fDo A (σ xC 10) (cl, ns)).2.1 (fDo A (σ xC 10) (cl, ns)).2.2) T)) args s 0 0 (fun q => b ≤ q)) T σ 0 [some (og xC), some (oi ((kN : Nat) : Int)), none] []
  refine r_al0 (q := 1) C dX8_carryOut_0 rfl ?_
  refine r_getR (q := 4) C f_X8_50 dX8_carryOut_1 rfl rfl (by assumption) (by assumption) (by omega) ?_
  refine r_getR (q := 7) C f_X8_404 dX8_carryOut_4 rfl rfl (by assumption) (by assumption) (by omega) ?_
  refine r_il1 (q := 8) C dX8_carryOut_7 rfl ?_
  refine r_aald (q := 9) C (kN) dX8_carryOut_8 rfl (by assumption) (by omega) (by omega) (by omega) (by decide) ((hJrw kN (by omega)).1) rfl rfl (by decide) (by decide) ?_
  have hrk := (hJrw kN (by omega)).2
  refine r_as2 (q := 10) C dX8_carryOut_9 rfl (by decide) ?_
  refine r_al0 (q := 11) C dX8_carryOut_10 rfl ?_
  refine r_getR (q := 14) C f_X8_50 dX8_carryOut_11 rfl rfl (by assumption) (by assumption) (by omega) ?_
  refine r_getR (q := 17) C f_X8_407 dX8_carryOut_14 rfl rfl (by assumption) (by assumption) (by omega) ?_
  refine r_il1 (q := 18) C dX8_carryOut_17 rfl ?_
  refine r_cald (q := 19) C (kN) dX8_carryOut_18 rfl (by assumption) (by omega) (by omega) (by omega) (by decide) ?_
  rw [hc1]
  rcases okC_c hok with ⟨rfl, hle⟩ | ⟨rfl, hle⟩ | ⟨rfl, hle⟩ | ⟨rfl, hle⟩ | ⟨rfl, hle⟩ | ⟨rfl, hle⟩ | ⟨rfl, hle⟩
  · have g0 := hg 0 (by omega)
    have g1 := hg 1 (by omega)
    have g2 := hg 2 (by omega)
    refine r_lsw (q := 76) (off := 57) C dX8_carryOut_19 (by omega) (by decide) (by rfl) (by decide) ?_
    refine r_al0 (q := 77) C dX8_carryOut_76 rfl ?_
    refine r_al2 (q := 78) C dX8_carryOut_77 rfl ?_
    refine r_iconst (q := 79) C dX8_carryOut_78 rfl ?_
    refine r_iald (q := 80) C (0) dX8_carryOut_79 rfl (by assumption) (by omega) (by omega) (by omega) (by decide) ?_
    rw [g0.1]
    refine r_al2 (q := 81) C dX8_carryOut_80 rfl ?_
    refine r_iconst (q := 82) C dX8_carryOut_81 rfl ?_
    refine r_iald (q := 83) C (1) dX8_carryOut_82 rfl (by assumption) (by omega) (by omega) (by omega) (by decide) ?_
    rw [g1.1]
    refine r_al2 (q := 84) C dX8_carryOut_83 rfl ?_
    refine r_iconst (q := 85) C dX8_carryOut_84 rfl ?_
    refine r_iald (q := 86) C (2) dX8_carryOut_85 rfl (by assumption) (by omega) (by omega) (by omega) (by decide) ?_
    rw [g2.1]
    refine r_callVs (q := 89) C (c_X8_cutBars hX hR hI (by omega) (by omega) (by omega)) m_X8_97 (by assumption) (by omega) dX8_carryOut_86 rfl rfl (by decide) (by decide) (Nat.le_of_ble_eq_true rfl) (fun z2 σ2 hσ2 => ?_)
    exact r_iret C hr dX8_carryOut_89 (by decide) (by decide) ⟨_, rfl, rfl, by rw [fDo_99]; exact hσ2.1, by rw [fDo_99]; exact hσ2.2⟩
  · have g0 := hg 0 (by omega)
    have g1 := hg 1 (by omega)
    have g2 := hg 2 (by omega)
    have g3 := hg 3 (by omega)
    refine r_lsw (q := 90) (off := 71) C dX8_carryOut_19 (by omega) (by decide) (by rfl) (by decide) ?_
    refine r_al0 (q := 91) C dX8_carryOut_90 rfl ?_
    refine r_al2 (q := 92) C dX8_carryOut_91 rfl ?_
    refine r_iconst (q := 93) C dX8_carryOut_92 rfl ?_
    refine r_iald (q := 94) C (0) dX8_carryOut_93 rfl (by assumption) (by omega) (by omega) (by omega) (by decide) ?_
    rw [g0.1]
    refine r_al2 (q := 95) C dX8_carryOut_94 rfl ?_
    refine r_iconst (q := 96) C dX8_carryOut_95 rfl ?_
    refine r_iald (q := 97) C (1) dX8_carryOut_96 rfl (by assumption) (by omega) (by omega) (by omega) (by decide) ?_
    rw [g1.1]
    refine r_al2 (q := 98) C dX8_carryOut_97 rfl ?_
    refine r_iconst (q := 99) C dX8_carryOut_98 rfl ?_
    refine r_iald (q := 100) C (2) dX8_carryOut_99 rfl (by assumption) (by omega) (by omega) (by omega) (by decide) ?_
    rw [g2.1]
    refine r_al2 (q := 101) C dX8_carryOut_100 rfl ?_
    refine r_iconst (q := 102) C dX8_carryOut_101 rfl ?_
    refine r_iald (q := 103) C (3) dX8_carryOut_102 rfl (by assumption) (by omega) (by omega) (by omega) (by decide) ?_
    rw [g3.1]
    refine r_callVs (q := 106) C (c_X8_insertBars hX hR hI (by omega) (by omega) (by omega) (by omega)) m_X8_127 (by assumption) (by omega) dX8_carryOut_103 rfl rfl (by decide) (by decide) (Nat.le_of_ble_eq_true rfl) (fun z2 σ2 hσ2 => ?_)
    exact r_iret C hr dX8_carryOut_106 (by decide) (by decide) ⟨_, rfl, rfl, by rw [fDo_105]; exact hσ2.1, by rw [fDo_105]; exact hσ2.2⟩
  · have g0 := hg 0 (by omega)
    have g1 := hg 1 (by omega)
    have g2 := hg 2 (by omega)
    refine r_lsw (q := 107) (off := 88) C dX8_carryOut_19 (by omega) (by decide) (by rfl) (by decide) ?_
    refine r_al0 (q := 108) C dX8_carryOut_107 rfl ?_
    refine r_al2 (q := 109) C dX8_carryOut_108 rfl ?_
    refine r_iconst (q := 110) C dX8_carryOut_109 rfl ?_
    refine r_iald (q := 111) C (0) dX8_carryOut_110 rfl (by assumption) (by omega) (by omega) (by omega) (by decide) ?_
    rw [g0.1]
    refine r_al2 (q := 112) C dX8_carryOut_111 rfl ?_
    refine r_iconst (q := 113) C dX8_carryOut_112 rfl ?_
    refine r_iald (q := 114) C (1) dX8_carryOut_113 rfl (by assumption) (by omega) (by omega) (by omega) (by decide) ?_
    rw [g1.1]
    refine r_al2 (q := 115) C dX8_carryOut_114 rfl ?_
    refine r_iconst (q := 116) C dX8_carryOut_115 rfl ?_
    refine r_iald (q := 117) C (2) dX8_carryOut_116 rfl (by assumption) (by omega) (by omega) (by omega) (by decide) ?_
    rw [g2.1]
    refine r_callVs (q := 120) C (c_X8_reworkBar hX hR hI (by omega) (by omega) (by omega) (by omega)) m_X8_142 (by assumption) (by omega) dX8_carryOut_117 rfl rfl (by decide) (by decide) (Nat.le_of_ble_eq_true rfl) (fun z2 σ2 hσ2 => ?_)
    exact r_iret C hr dX8_carryOut_120 (by decide) (by decide) ⟨_, rfl, rfl, by rw [fDo_119]; exact hσ2.1, by rw [fDo_119]; exact hσ2.2⟩
  · have g0 := hg 0 (by omega)
    have g1 := hg 1 (by omega)
    have g2 := hg 2 (by omega)
    refine r_lsw (q := 121) (off := 102) C dX8_carryOut_19 (by omega) (by decide) (by rfl) (by decide) ?_
    refine r_al0 (q := 122) C dX8_carryOut_121 rfl ?_
    refine r_al2 (q := 123) C dX8_carryOut_122 rfl ?_
    refine r_iconst (q := 124) C dX8_carryOut_123 rfl ?_
    refine r_iald (q := 125) C (0) dX8_carryOut_124 rfl (by assumption) (by omega) (by omega) (by omega) (by decide) ?_
    rw [g0.1]
    refine r_al2 (q := 126) C dX8_carryOut_125 rfl ?_
    refine r_iconst (q := 127) C dX8_carryOut_126 rfl ?_
    refine r_iald (q := 128) C (1) dX8_carryOut_127 rfl (by assumption) (by omega) (by omega) (by omega) (by decide) ?_
    rw [g1.1]
    refine r_al2 (q := 129) C dX8_carryOut_128 rfl ?_
    refine r_iconst (q := 130) C dX8_carryOut_129 rfl ?_
    refine r_iald (q := 131) C (2) dX8_carryOut_130 rfl (by assumption) (by omega) (by omega) (by omega) (by decide) ?_
    rw [g2.1]
    refine r_callVs (q := 134) C (c_X8_setTempo hX hR hI (by omega) (by omega) (by omega)) m_X8_211 (by assumption) (by omega) dX8_carryOut_131 rfl rfl (by decide) (by decide) (Nat.le_of_ble_eq_true rfl) (fun z2 σ2 hσ2 => ?_)
    exact r_iret C hr dX8_carryOut_134 (by decide) (by decide) ⟨_, rfl, rfl, by rw [fDo_116]; exact hσ2.1, by rw [fDo_116]; exact hσ2.2⟩
  · have g0 := hg 0 (by omega)
    have g1 := hg 1 (by omega)
    have g2 := hg 2 (by omega)
    have g3 := hg 3 (by omega)
    refine r_lsw (q := 135) (off := 116) C dX8_carryOut_19 (by omega) (by decide) (by rfl) (by decide) ?_
    refine r_al0 (q := 136) C dX8_carryOut_135 rfl ?_
    refine r_al2 (q := 137) C dX8_carryOut_136 rfl ?_
    refine r_iconst (q := 138) C dX8_carryOut_137 rfl ?_
    refine r_iald (q := 139) C (0) dX8_carryOut_138 rfl (by assumption) (by omega) (by omega) (by omega) (by decide) ?_
    rw [g0.1]
    refine r_al2 (q := 140) C dX8_carryOut_139 rfl ?_
    refine r_iconst (q := 141) C dX8_carryOut_140 rfl ?_
    refine r_iald (q := 142) C (1) dX8_carryOut_141 rfl (by assumption) (by omega) (by omega) (by omega) (by decide) ?_
    rw [g1.1]
    refine r_al2 (q := 143) C dX8_carryOut_142 rfl ?_
    refine r_iconst (q := 144) C dX8_carryOut_143 rfl ?_
    refine r_iald (q := 145) C (2) dX8_carryOut_144 rfl (by assumption) (by omega) (by omega) (by omega) (by decide) ?_
    rw [g2.1]
    refine r_al2 (q := 146) C dX8_carryOut_145 rfl ?_
    refine r_iconst (q := 147) C dX8_carryOut_146 rfl ?_
    refine r_iald (q := 148) C (3) dX8_carryOut_147 rfl (by assumption) (by omega) (by omega) (by omega) (by decide) ?_
    rw [g3.1]
    refine r_callVs (q := 151) C (c_X8_setBowing hX hR hI (by omega) (by omega) (by omega) (by omega)) m_X8_253 (by assumption) (by omega) dX8_carryOut_148 rfl rfl (by decide) (by decide) (Nat.le_of_ble_eq_true rfl) (fun z2 σ2 hσ2 => ?_)
    exact r_iret C hr dX8_carryOut_151 (by decide) (by decide) ⟨_, rfl, rfl, by rw [fDo_98]; exact hσ2.1, by rw [fDo_98]; exact hσ2.2⟩
  · have g0 := hg 0 (by omega)
    have g1 := hg 1 (by omega)
    have g2 := hg 2 (by omega)
    have g3 := hg 3 (by omega)
    have g4 := hg 4 (by omega)
    refine r_lsw (q := 152) (off := 133) C dX8_carryOut_19 (by omega) (by decide) (by rfl) (by decide) ?_
    refine r_al0 (q := 153) C dX8_carryOut_152 rfl ?_
    refine r_al2 (q := 154) C dX8_carryOut_153 rfl ?_
    refine r_iconst (q := 155) C dX8_carryOut_154 rfl ?_
    refine r_iald (q := 156) C (0) dX8_carryOut_155 rfl (by assumption) (by omega) (by omega) (by omega) (by decide) ?_
    rw [g0.1]
    refine r_al2 (q := 157) C dX8_carryOut_156 rfl ?_
    refine r_iconst (q := 158) C dX8_carryOut_157 rfl ?_
    refine r_iald (q := 159) C (1) dX8_carryOut_158 rfl (by assumption) (by omega) (by omega) (by omega) (by decide) ?_
    rw [g1.1]
    refine r_al2 (q := 160) C dX8_carryOut_159 rfl ?_
    refine r_iconst (q := 161) C dX8_carryOut_160 rfl ?_
    refine r_iald (q := 162) C (2) dX8_carryOut_161 rfl (by assumption) (by omega) (by omega) (by omega) (by decide) ?_
    rw [g2.1]
    refine r_al2 (q := 163) C dX8_carryOut_162 rfl ?_
    refine r_iconst (q := 164) C dX8_carryOut_163 rfl ?_
    refine r_iald (q := 165) C (3) dX8_carryOut_164 rfl (by assumption) (by omega) (by omega) (by omega) (by decide) ?_
    rw [g3.1]
    refine r_al2 (q := 166) C dX8_carryOut_165 rfl ?_
    refine r_iconst (q := 167) C dX8_carryOut_166 rfl ?_
    refine r_iald (q := 168) C (4) dX8_carryOut_167 rfl (by assumption) (by omega) (by omega) (by omega) (by decide) ?_
    rw [g4.1]
    refine r_callVs (q := 171) C (c_X8_lendPart hX hR hI (by omega) (by omega) (by omega) (by omega) (by omega)) m_X8_282 (by assumption) (by omega) dX8_carryOut_168 rfl rfl (by decide) (by decide) (Nat.le_of_ble_eq_true rfl) (fun z2 σ2 hσ2 => ?_)
    exact r_iret C hr dX8_carryOut_171 (by decide) (by decide) ⟨_, rfl, rfl, by rw [fDo_108]; exact hσ2.1, by rw [fDo_108]; exact hσ2.2⟩
  · have g0 := hg 0 (by omega)
    have g1 := hg 1 (by omega)
    have g2 := hg 2 (by omega)
    refine r_lsw (q := 172) (off := 153) C dX8_carryOut_19 (by omega) (by decide) (by rfl) (by decide) ?_
    refine r_al0 (q := 173) C dX8_carryOut_172 rfl ?_
    refine r_al2 (q := 174) C dX8_carryOut_173 rfl ?_
    refine r_iconst (q := 175) C dX8_carryOut_174 rfl ?_
    refine r_iald (q := 176) C (0) dX8_carryOut_175 rfl (by assumption) (by omega) (by omega) (by omega) (by decide) ?_
    rw [g0.1]
    refine r_al2 (q := 177) C dX8_carryOut_176 rfl ?_
    refine r_iconst (q := 178) C dX8_carryOut_177 rfl ?_
    refine r_iald (q := 179) C (1) dX8_carryOut_178 rfl (by assumption) (by omega) (by omega) (by omega) (by decide) ?_
    rw [g1.1]
    refine r_al2 (q := 180) C dX8_carryOut_179 rfl ?_
    refine r_iconst (q := 181) C dX8_carryOut_180 rfl ?_
    refine r_iald (q := 182) C (2) dX8_carryOut_181 rfl (by assumption) (by omega) (by omega) (by omega) (by decide) ?_
    rw [g2.1]
    refine r_callVs (q := 185) C (c_X8_bringBack hX hR hI (by omega) (by omega) (by omega)) m_X8_308 (by assumption) (by omega) dX8_carryOut_182 rfl rfl (by decide) (by decide) (Nat.le_of_ble_eq_true rfl) (fun z2 σ2 hσ2 => ?_)
    exact r_iret C hr dX8_carryOut_185 (by decide) (by decide) ⟨_, rfl, rfl, by rw [fDo_114]; exact hσ2.1, by rw [fDo_114]; exact hσ2.2⟩
