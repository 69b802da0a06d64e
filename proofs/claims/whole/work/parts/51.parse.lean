/-! the text, read: a pure parser -/
abbrev isDg (f : Nat → Int) (nI px : Nat) : Prop := px < nI ∧ 48 ≤ f px ∧ f px ≤ 57
/-- at most so many digits from px on; the place behind and the number -/
def dgP (f : Nat → Int) (nI : Nat) : Nat → Nat → Int → Nat × Int
  | 0, px, v => (px, v)
  | k + 1, px, v => if isDg f nI px then dgP f nI k (px + 1) (10 * v + f px - 48) else (px, v)
/-- a form's parts from px on; the place reached, and the numbers if it holds -/
def prP (f : Nat → Int) (nI : Nat) : List Int → Nat → List Int → Nat × Option (List Int)
  | [], px, ns => (px, some ns)
  | c :: cs, px, ns => if c = 100 ∨ c = 110 then (if isDg f nI px then prP f nI cs (dgP f nI (if c = 100 then 1 else 4) px 0).1 (ns ++ [(dgP f nI (if c = 100 then 1 else 4) px 0).2]) else (px, none)) else if px < nI ∧ f px = c then prP f nI cs (px + 1) ns else (px, none)
def formIx (c : Int) : Nat := if c = 99 then 0 else if c = 105 then 1 else if c = 119 then 2 else if c = 116 then 3 else if c = 98 then 4 else if c = 108 then 5 else if c = 114 then 6 else 7
abbrev oCmd : Type := Int × List Int
def pcP (f : Nat → Int) (nI px : Nat) : Nat × Option oCmd := if px < nI ∧ formIx (f px) < 7 then ((prP f nI (o_sch.getD (formIx (f px)) []) (px + 1) []).1, (prP f nI (o_sch.getD (formIx (f px)) []) (px + 1) []).2.map (fun ns => (f px, ns))) else (px, none)
/-- at most so many commands from px on: the fault's place or -7, and the commands -/
def paP (f : Nat → Int) (nI : Nat) : Nat → Nat → List oCmd → Int × List oCmd
  | 0, px, acc => ((px : Int), acc)
  | k + 1, px, acc => match pcP f nI px with
    | (qx, none) => ((qx : Int), acc)
    | (qx, some c) => if nI ≤ qx then (-7, acc ++ [c]) else if f qx = 59 then paP f nI k (qx + 1) (acc ++ [c]) else ((qx : Int), acc ++ [c])
theorem formIx_8 (c : Int) : formIx c < 8 := by
  unfold formIx
  repeat' split
  all_goals omega
theorem formIx_7 {c : Int} (h : c ≠ 98 ∧ c ≠ 99 ∧ c ≠ 105 ∧ c ≠ 108 ∧ c ≠ 114 ∧ c ≠ 116 ∧ c ≠ 119) : formIx c = 7 := by
  unfold formIx
  repeat' split
  all_goals omega
theorem dgP_le {f : Nat → Int} {nI : Nat} : ∀ (k px : Nat) (v : Int), px ≤ (dgP f nI k px v).1 ∧ (px ≤ nI → (dgP f nI k px v).1 ≤ nI)
  | 0, px, v => ⟨Nat.le_refl _, id⟩
  | k + 1, px, v => by
    have h := dgP_le (f := f) (nI := nI) k (px + 1) (10 * v + f px - 48)
    unfold dgP
    by_cases hc : isDg f nI px
    · rw [if_pos hc]
      exact ⟨by omega, fun _ => h.2 hc.1⟩
    · rw [if_neg hc]
      exact ⟨Nat.le_refl _, id⟩
theorem prP_le {f : Nat → Int} {nI : Nat} : ∀ (cs : List Int) (px : Nat) (ns : List Int), px ≤ (prP f nI cs px ns).1 ∧ (px ≤ nI → (prP f nI cs px ns).1 ≤ nI)
  | [], px, ns => ⟨Nat.le_refl _, id⟩
  | c :: cs, px, ns => by
    unfold prP
    by_cases hc : c = 100 ∨ c = 110
    · rw [if_pos hc]
      by_cases hd2 : isDg f nI px
      · rw [if_pos hd2]
        have h1 := dgP_le (f := f) (nI := nI) (if c = 100 then 1 else 4) px 0
        have h2 := prP_le (f := f) (nI := nI) cs (dgP f nI (if c = 100 then 1 else 4) px 0).1 (ns ++ [(dgP f nI (if c = 100 then 1 else 4) px 0).2])
        exact ⟨by omega, fun h => h2.2 (h1.2 h)⟩
      · rw [if_neg hd2]
        exact ⟨Nat.le_refl _, id⟩
    · rw [if_neg hc]
      by_cases hd2 : px < nI ∧ f px = c
      · rw [if_pos hd2]
        have h2 := prP_le (f := f) (nI := nI) cs (px + 1) ns
        exact ⟨by omega, fun _ => h2.2 hd2.1⟩
      · rw [if_neg hd2]
        exact ⟨Nat.le_refl _, id⟩
theorem pcP_le {f : Nat → Int} {nI px : Nat} : px ≤ (pcP f nI px).1 ∧ (px ≤ nI → (pcP f nI px).1 ≤ nI) ∧ ((pcP f nI px).2 ≠ none → px < (pcP f nI px).1) := by
  unfold pcP
  by_cases hc : px < nI ∧ formIx (f px) < 7
  · rw [if_pos hc]
    have h := prP_le (f := f) (nI := nI) (o_sch.getD (formIx (f px)) []) (px + 1) []
    exact ⟨by omega, fun _ => h.2 hc.1, fun _ => by omega⟩
  · rw [if_neg hc]
    exact ⟨Nat.le_refl _, id, fun h => absurd rfl h⟩
/-- how many numbers stand among a form's first parts -/
def nctP (i ix : Nat) : Nat := ((o_sch.getD i []).take ix).countP (fun c => decide (c = 100 ∨ c = 110))
theorem nctP_s : ∀ i, i < 8 → ∀ ix, ix < 9 → ix < o_slen.getD i 0 → nctP i (ix + 1) = nctP i ix + (if (o_sch.getD i []).getD ix 0 = 100 ∨ (o_sch.getD i []).getD ix 0 = 110 then 1 else 0) ∧ nctP i ix + (if (o_sch.getD i []).getD ix 0 = 100 ∨ (o_sch.getD i []).getD ix 0 = 110 then 1 else 0) ≤ 5 := by decide +kernel
theorem drop_s {l : List Int} {ix : Nat} (h : ix < l.length) : l.drop ix = l.getD ix 0 :: l.drop (ix + 1) := by
  rw [List.drop_eq_getElem_cons h, List.getD_eq_getElem?_getD, List.getElem?_eq_getElem h]
  rfl
def oPB (P N : oM → Prop) (T : oT) : Option oV → oT → oM → Prop := fun r T' σ' => T' = T ∧ ((r = some (oi 1) ∧ P σ') ∨ (r = some (oi 0) ∧ N σ'))
section OQ
variable {p : Program} {l : Launch} {e : Env} {R : Room} {s : State} {m : MethodId} {args : Array Value} {below : List Frame} {meth : Method} {c : Code} {G : oG} {b : Nat} {own : String} {cc : ByteArray} {nL k n pc q : Nat} {Q : State → Prop} {T : oT} {σ : oM} {ls : List (Option oV)} {st stk : List oV}
theorem r_callVB (C : oCx p s m args meth c G b own cc nL) {idx ci nL' fr lc a x : Nat} {Cn : String} {y : MethodName} {cc' : ByteArray} {ret : Option FieldType} {As : List oV} {P N : oM → Prop} (hM : MS y cc' nL' ret fr 0 0 lc (og a :: As) T σ (oPB P N T)) (F : o_MV own idx Cn y cc' nL' ret As.length ci) (hs : T.2.1 a = (ci, x)) (ha : a < T.1) (hd : decode cc pc = .ok (.invokevirtual idx, 3)) (hq : pc + 3 = q) (hst : stk = As.reverse ++ og a :: st) (hR : fr + 1 ≤ R.frames ∧ 8 + (nL' + 11) + lc ≤ R.locals) (hr : k ≤ R.cells ∧ n ≤ R.slots) (hsl : st.length ≤ 8) (kt : ∀ σ', P σ' → oW p l e R s m args below meth c G b nL k n Q T σ' q ls (oi 1 :: st)) (kf : ∀ σ', N σ' → oW p l e R s m args below meth c G b nL k n Q T σ' q ls (oi 0 :: st)) : oW p l e R s m args below meth c G b nL k n Q T σ pc ls stk :=
  r_callV C hM F hs ha hd hq hst hR hr hsl (fun r T' σ' h => by
    obtain ⟨rfl, h⟩ := h
    rcases h with ⟨rfl, h⟩ | ⟨rfl, h⟩
    · exact kt σ' h
    · exact kf σ' h)
end OQ
set_option maxRecDepth 20000 in
set_option maxHeartbeats 8000000 in
theorem c_X2_accept {T : oT} {σ : oM} {iC nI px : Nat} {f : Nat → Int} (hT2 : oTx T iC) (hln : σ iC 1 = (nI : Int)) (hn60 : nI ≤ 60) (hat : σ iC 2 = (px : Int)) (hpx : px ≤ nI) (hsg : ∀ jx, jx < nI → σ (iC + 1) jx = f jx ∧ 32 ≤ f jx ∧ f jx ≤ 126) {cx : Int} (hcx : 0 ≤ cx ∧ cx ≤ 65535) : MS yX2_accept cX2_accept 2 (some FieldType.boolean) 0 0 0 0 [og iC, oi cx] T σ (oPB (fun σ2 => (px < nI ∧ f px = cx) ∧ σ2 = o_up σ iC 2 ((px + 1 : Nat) : Int)) (fun σ2 => ¬ (px < nI ∧ f px = cx) ∧ σ2 = σ) T) := by
  have hTc := hT2
  obtain ⟨hI0, hIr0, hIr4, hIr5, hIs1, hIs2, hIs3, hIrw, hIT⟩ := hTc
  refine o_met (by decide +kernel) (Nat.le_of_ble_eq_true rfl) (fun p l ee s m args below meth c G b C hr hn => ?_)
  have C : oCx p s m args meth c G b RX2 cX2_accept 2 := C
  show oW p l ee ({ frames := 0, cells := 0, slots := 0, locals := 0 } : Room) s m args below meth c G b 2 0 0 (MQ below (o_Qc G b (oPB (fun σ2 => (px < nI ∧ f px = cx) ∧ σ2 = o_up σ iC 2 ((px + 1 : Nat) : Int)) (fun σ2 => ¬ (px < nI ∧ f px = cx) ∧ σ2 = σ) T)) args s 0 0 (fun q => b ≤ q)) T σ 0 [some (og iC), some (oi cx)] []
  refine r_al0 (q := 1) C dX2_accept_0 rfl ?_
  refine r_getI (q := 4) C f_X2_30 dX2_accept_1 rfl rfl (by assumption) (by omega) ?_
  rw [hat]
  refine r_al0 (q := 5) C dX2_accept_4 rfl ?_
  refine r_getI (q := 8) C f_X2_23 dX2_accept_5 rfl rfl (by assumption) (by omega) ?_
  rw [hln]
  refine r_icge (q := 36) (q2 := 11) C (by omega) (by omega) dX2_accept_8 (by decide) rfl (fun br8 => ?_) (fun br8 => ?_)
  · refine r_iconst (q := 37) C dX2_accept_36 rfl ?_
    exact r_zret C hr dX2_accept_37 (by decide) (by decide) (by decide) ⟨rfl, Or.inr ⟨rfl, fun hc => by omega, rfl⟩⟩
  · refine r_al0 (q := 12) C dX2_accept_11 rfl ?_
    refine r_getR (q := 15) C f_X2_9 dX2_accept_12 rfl rfl (by assumption) (by assumption) (by omega) ?_
    refine r_al0 (q := 16) C dX2_accept_15 rfl ?_
    refine r_getI (q := 19) C f_X2_30 dX2_accept_16 rfl rfl (by assumption) (by omega) ?_
    rw [hat]
    obtain ⟨hs1, hs2, hs3⟩ := hsg px (by omega)
    refine r_cald (q := 20) C (px) dX2_accept_19 rfl (by assumption) (by omega) (by omega) (by omega) (by decide) ?_
    rw [hs1]
    refine r_il1 (q := 21) C dX2_accept_20 rfl ?_
    refine r_icne (q := 36) (q2 := 24) C (by omega) (by omega) dX2_accept_21 (by decide) rfl (fun br21 => ?_) (fun br21 => ?_)
    · refine r_iconst (q := 37) C dX2_accept_36 rfl ?_
      exact r_zret C hr dX2_accept_37 (by decide) (by decide) (by decide) ⟨rfl, Or.inr ⟨rfl, fun hc => by omega, rfl⟩⟩
    · refine r_al0 (q := 25) C dX2_accept_24 rfl ?_
      refine r_dup (q := 26) C dX2_accept_25 rfl ?_
      refine r_getI (q := 29) C f_X2_30 dX2_accept_26 rfl rfl (by assumption) (by omega) ?_
      rw [hat]
      refine r_iconst (q := 30) C dX2_accept_29 rfl ?_
      refine r_iadd (q := 31) C dX2_accept_30 rfl ?_
      refine r_putI (q := 34) C fp_X2_30 dX2_accept_31 rfl rfl (by assumption) (by omega) ?_
      refine r_iconst (q := 35) C dX2_accept_34 rfl ?_
      exact r_zret C hr dX2_accept_35 (by decide) (by decide) (by decide) ⟨rfl, Or.inl ⟨rfl, ⟨by omega, by omega⟩, rfl⟩⟩
theorem o_up_up {σ : oM} {a k : Nat} {v w : Int} : o_up (o_up σ a k v) a k w = o_up σ a k w := by
  funext x j
  unfold o_up
  by_cases h : x = a ∧ j = k
  · rw [if_pos h, if_pos h]
  · rw [if_neg h, if_neg h, if_neg h]
theorem o_up_self {σ : oM} {a k : Nat} {v : Int} (h : σ a k = v) : o_up σ a k v = σ := by
  funext x j
  unfold o_up
  by_cases hc : x = a ∧ j = k
  · rw [if_pos hc, hc.1, hc.2, h]
  · rw [if_neg hc]
set_option maxRecDepth 20000 in
set_option maxHeartbeats 8000000 in
theorem c_X2_parseNumber {T : oT} {σ : oM} {iC nI px : Nat} {f : Nat → Int} (hT2 : oTx T iC) (hln : σ iC 1 = (nI : Int)) (hn60 : nI ≤ 60) (hat : σ iC 2 = (px : Int)) (hpx : px ≤ nI) (hsg : ∀ jx, jx < nI → σ (iC + 1) jx = f jx ∧ 32 ≤ f jx ∧ f jx ≤ 126) {mx : Nat} (hmx : 1 ≤ mx ∧ mx ≤ 4) : MS yX2_parseNumber cX2_parseNumber 4 (some FieldType.int) 0 0 0 0 [og iC, oi ((mx : Nat) : Int)] T σ (oPs (fun zx σ2 => zx = (if isDg f nI px then (dgP f nI mx px 0).2 else -1) ∧ σ2 = o_up σ iC 2 (((dgP f nI mx px 0).1 : Nat) : Int) ∧ o_r zx) T) := by
  have hTc := hT2
  obtain ⟨hI0, hIr0, hIr4, hIr5, hIs1, hIs2, hIs3, hIrw, hIT⟩ := hTc
  refine o_met (by decide +kernel) (Nat.le_of_ble_eq_true rfl) (fun p l ee s m args below meth c G b C hr hn => ?_)
  have C : oCx p s m args meth c G b RX2 cX2_parseNumber 4 := C
  show oW p l ee ({ frames := 0, cells := 0, slots := 0, locals := 0 } : Room) s m args below meth c G b 4 0 0 (MQ below (o_Qc G b (oPs (fun zx σ2 => zx = (if isDg f nI px then (dgP f nI mx px 0).2 else -1) ∧ σ2 = o_up σ iC 2 (((dgP f nI mx px 0).1 : Nat) : Int) ∧ o_r zx) T)) args s 0 0 (fun q => b ≤ q)) T σ 0 [some (og iC), some (oi ((mx : Nat) : Int)), none, none] []
  have lp : ∀ (n : Nat) (ix qx : Nat) (nv : Int), mx - ix < n → (ix ≤ mx) → (qx ≤ nI) → (((ix = 0 ∧ nv = 0) ∨ (ix = 1 ∧ 0 ≤ nv ∧ nv ≤ 9) ∨ (ix = 2 ∧ 0 ≤ nv ∧ nv ≤ 99) ∨ (ix = 3 ∧ 0 ≤ nv ∧ nv ≤ 999) ∨ (ix = 4 ∧ 0 ≤ nv ∧ nv ≤ 9999))) → (dgP f nI mx px 0 = dgP f nI (mx - ix) qx nv) → (ix ≠ 0 → isDg f nI px) → (ix = 0 → qx = px) → oW p l ee ({ frames := 0, cells := 0, slots := 0, locals := 0 } : Room) s m args below meth c G b 4 0 0 (MQ below (o_Qc G b (oPs (fun zx σ2 => zx = (if isDg f nI px then (dgP f nI mx px 0).2 else -1) ∧ σ2 = o_up σ iC 2 (((dgP f nI mx px 0).1 : Nat) : Int) ∧ o_r zx) T)) args s 0 0 (fun q => b ≤ q)) T (o_up σ iC 2 ((qx : Nat) : Int)) 4 [some (og iC), some (oi ((mx : Nat) : Int)), some (oi (if ix = 0 then -1 else nv)), some (oi ((ix : Nat) : Int))] [] := by
    intro n
    induction n with
    | zero =>
      intro ix qx nv hms
      exact absurd hms (Nat.not_lt_zero _)
    | succ n ih =>
      intro ix qx nv hms h1 h2 h3 h4 h5 h6
      refine r_il3 (q := 5) C dX2_parseNumber_4 rfl ?_
      refine r_il1 (q := 6) C dX2_parseNumber_5 rfl ?_
      refine r_icge (q := 92) (q2 := 9) C (by omega) (by omega) dX2_parseNumber_6 (by decide) rfl (fun br6 => ?_) (fun br6 => ?_)
      · 
        refine r_il2 (q := 93) C dX2_parseNumber_92 rfl ?_
        refine r_iret C hr dX2_parseNumber_93 (by decide) (by decide) ?_
        refine ⟨_, rfl, rfl, ?_, ?_, ?_⟩
        · by_cases hz : ix = 0
          · rw [if_pos hz, if_neg (by omega)]
          · rw [if_neg hz, if_pos (h5 hz), h4, show dgP f nI (mx - ix) qx nv = (qx, nv) by rw [show mx - ix = 0 by omega]; rfl]
        · rw [h4, show dgP f nI (mx - ix) qx nv = (qx, nv) by rw [show mx - ix = 0 by omega]; rfl]
        · split <;> omega
      · refine r_al0 (q := 10) C dX2_parseNumber_9 rfl ?_
        refine r_getI (q := 13) C f_X2_30 dX2_parseNumber_10 rfl rfl (by assumption) (by omega) ?_
        rw [o_up_at]
        refine r_al0 (q := 14) C dX2_parseNumber_13 rfl ?_
        refine r_getI (q := 17) C f_X2_23 dX2_parseNumber_14 rfl rfl (by assumption) (by omega) ?_
        rw [o_up_nj (Or.inr (by decide)), hln]
        refine r_icge (q := 48) (q2 := 20) C (by omega) (by omega) dX2_parseNumber_17 (by decide) rfl (fun br17 => ?_) (fun br17 => ?_)
        · have hnd : ¬ isDg f nI qx := fun hc => by have := hc.1; omega
          refine r_il2 (q := 49) C dX2_parseNumber_48 rfl ?_
          refine r_iret C hr dX2_parseNumber_49 (by decide) (by decide) ?_
          refine ⟨_, rfl, rfl, ?_, ?_, ?_⟩
          · by_cases hz : ix = 0
            · rw [if_pos hz, if_neg (fun hc => hnd (by rw [h6 hz]; exact hc))]
            · rw [if_neg hz, if_pos (h5 hz), h4, show dgP f nI (mx - ix) qx nv = (qx, nv) by rw [show mx - ix = (mx - ix - 1) + 1 by omega, dgP, if_neg hnd]]
          · rw [h4, show dgP f nI (mx - ix) qx nv = (qx, nv) by rw [show mx - ix = (mx - ix - 1) + 1 by omega, dgP, if_neg hnd]]
          · split <;> omega
        · refine r_al0 (q := 21) C dX2_parseNumber_20 rfl ?_
          refine r_getR (q := 24) C f_X2_9 dX2_parseNumber_21 rfl rfl (by assumption) (by assumption) (by omega) ?_
          refine r_al0 (q := 25) C dX2_parseNumber_24 rfl ?_
          refine r_getI (q := 28) C f_X2_30 dX2_parseNumber_25 rfl rfl (by assumption) (by omega) ?_
          rw [o_up_at]
          obtain ⟨hs1, hs2, hs3⟩ := hsg qx (by omega)
          refine r_cald (q := 29) C (qx) dX2_parseNumber_28 rfl (by assumption) (by omega) (by omega) (by omega) (by decide) ?_
          rw [o_up_ne (by omega), hs1]
          refine r_bipush (q := 31) C dX2_parseNumber_29 (by decide) rfl ?_
          refine r_iclt (q := 48) (q2 := 34) C (by omega) (by omega) dX2_parseNumber_31 (by decide) rfl (fun br31 => ?_) (fun br31 => ?_)
          · have hnd : ¬ isDg f nI qx := fun hc => by have := hc.2.1; omega
            refine r_il2 (q := 49) C dX2_parseNumber_48 rfl ?_
            refine r_iret C hr dX2_parseNumber_49 (by decide) (by decide) ?_
            refine ⟨_, rfl, rfl, ?_, ?_, ?_⟩
            · by_cases hz : ix = 0
              · rw [if_pos hz, if_neg (fun hc => hnd (by rw [h6 hz]; exact hc))]
              · rw [if_neg hz, if_pos (h5 hz), h4, show dgP f nI (mx - ix) qx nv = (qx, nv) by rw [show mx - ix = (mx - ix - 1) + 1 by omega, dgP, if_neg hnd]]
            · rw [h4, show dgP f nI (mx - ix) qx nv = (qx, nv) by rw [show mx - ix = (mx - ix - 1) + 1 by omega, dgP, if_neg hnd]]
            · split <;> omega
          · refine r_al0 (q := 35) C dX2_parseNumber_34 rfl ?_
            refine r_getR (q := 38) C f_X2_9 dX2_parseNumber_35 rfl rfl (by assumption) (by assumption) (by omega) ?_
            refine r_al0 (q := 39) C dX2_parseNumber_38 rfl ?_
            refine r_getI (q := 42) C f_X2_30 dX2_parseNumber_39 rfl rfl (by assumption) (by omega) ?_
            rw [o_up_at]
            refine r_cald (q := 43) C (qx) dX2_parseNumber_42 rfl (by assumption) (by omega) (by omega) (by omega) (by decide) ?_
            rw [o_up_ne (by omega), hs1]
            refine r_bipush (q := 45) C dX2_parseNumber_43 (by decide) rfl ?_
            refine r_icle (q := 50) (q2 := 48) C (by omega) (by omega) dX2_parseNumber_45 (by decide) rfl (fun br45 => ?_) (fun br45 => ?_)
            · have hid : isDg f nI qx := ⟨by omega, by omega, by omega⟩
              refine r_il2 (q := 51) C dX2_parseNumber_50 rfl ?_
              refine r_ifge (q := 58) (q2 := 54) C (by split <;> omega) dX2_parseNumber_51 (by decide) rfl (fun br51 => ?_) (fun br51 => ?_)
              · have hz : ix ≠ 0 := fun hc => by
                  rw [if_pos hc] at br51
                  omega
                rw [if_neg hz]
                refine r_il2 (q := 59) C dX2_parseNumber_58 rfl ?_
                refine r_bipush (q := 61) C dX2_parseNumber_59 (by decide) rfl ?_
                refine r_imul (q := 62) C dX2_parseNumber_61 rfl ?_
                refine r_al0 (q := 63) C dX2_parseNumber_62 rfl ?_
                refine r_getR (q := 66) C f_X2_9 dX2_parseNumber_63 rfl rfl (by assumption) (by assumption) (by omega) ?_
                refine r_al0 (q := 67) C dX2_parseNumber_66 rfl ?_
                refine r_getI (q := 70) C f_X2_30 dX2_parseNumber_67 rfl rfl (by assumption) (by omega) ?_
                rw [o_up_at]
                refine r_cald (q := 71) C (qx) dX2_parseNumber_70 rfl (by assumption) (by omega) (by omega) (by omega) (by decide) ?_
                rw [o_up_ne (by omega), hs1]
                refine r_iadd (q := 72) C dX2_parseNumber_71 rfl ?_
                refine r_bipush (q := 74) C dX2_parseNumber_72 (by decide) rfl ?_
                refine r_isub (q := 75) C dX2_parseNumber_74 rfl ?_
                refine r_is2 (q := 76) C dX2_parseNumber_75 rfl (by decide) ?_
                refine r_al0 (q := 77) C dX2_parseNumber_76 rfl ?_
                refine r_dup (q := 78) C dX2_parseNumber_77 rfl ?_
                refine r_getI (q := 81) C f_X2_30 dX2_parseNumber_78 rfl rfl (by assumption) (by omega) ?_
                rw [o_up_at]
                refine r_iconst (q := 82) C dX2_parseNumber_81 rfl ?_
                refine r_iadd (q := 83) C dX2_parseNumber_82 rfl ?_
                refine r_putI (q := 86) C fp_X2_30 dX2_parseNumber_83 rfl rfl (by assumption) (by omega) ?_
                rw [show o_up (o_up σ iC 2 ((qx : Nat) : Int)) iC 2 (((qx : Nat) : Int) + 1) = o_up σ iC 2 ((qx + 1 : Nat) : Int) from o_up_up]
                refine r_iinc3 (q := 89) C dX2_parseNumber_86 rfl (by decide) ?_
                refine r_goto (q := 4) C dX2_parseNumber_89 (by decide) ?_
                rw [show nv * 10 + f qx - 48 = (if ix + 1 = 0 then -1 else 10 * nv + f qx - 48) by rw [if_neg (by omega)]; omega]
                exact ih (ix + 1) (qx + 1) (10 * nv + f qx - 48) (by omega) (by omega) (by omega) (by omega) (by rw [h4, show mx - ix = (mx - (ix + 1)) + 1 by omega, dgP, if_pos hid]) (fun _ => h5 hz) (fun hc => absurd hc (by omega))
              · have hz : ix = 0 := by
                  by_cases hc : ix = 0
                  · exact hc
                  · rw [if_neg hc] at br51
                    omega
                refine r_iconst (q := 55) C dX2_parseNumber_54 rfl ?_
                refine r_goto (q := 62) C dX2_parseNumber_55 (by decide) ?_
                refine r_al0 (q := 63) C dX2_parseNumber_62 rfl ?_
                refine r_getR (q := 66) C f_X2_9 dX2_parseNumber_63 rfl rfl (by assumption) (by assumption) (by omega) ?_
                refine r_al0 (q := 67) C dX2_parseNumber_66 rfl ?_
                refine r_getI (q := 70) C f_X2_30 dX2_parseNumber_67 rfl rfl (by assumption) (by omega) ?_
                rw [o_up_at]
                refine r_cald (q := 71) C (qx) dX2_parseNumber_70 rfl (by assumption) (by omega) (by omega) (by omega) (by decide) ?_
                rw [o_up_ne (by omega), hs1]
                refine r_iadd (q := 72) C dX2_parseNumber_71 rfl ?_
                refine r_bipush (q := 74) C dX2_parseNumber_72 (by decide) rfl ?_
                refine r_isub (q := 75) C dX2_parseNumber_74 rfl ?_
                refine r_is2 (q := 76) C dX2_parseNumber_75 rfl (by decide) ?_
                refine r_al0 (q := 77) C dX2_parseNumber_76 rfl ?_
                refine r_dup (q := 78) C dX2_parseNumber_77 rfl ?_
                refine r_getI (q := 81) C f_X2_30 dX2_parseNumber_78 rfl rfl (by assumption) (by omega) ?_
                rw [o_up_at]
                refine r_iconst (q := 82) C dX2_parseNumber_81 rfl ?_
                refine r_iadd (q := 83) C dX2_parseNumber_82 rfl ?_
                refine r_putI (q := 86) C fp_X2_30 dX2_parseNumber_83 rfl rfl (by assumption) (by omega) ?_
                rw [show o_up (o_up σ iC 2 ((qx : Nat) : Int)) iC 2 (((qx : Nat) : Int) + 1) = o_up σ iC 2 ((qx + 1 : Nat) : Int) from o_up_up]
                refine r_iinc3 (q := 89) C dX2_parseNumber_86 rfl (by decide) ?_
                refine r_goto (q := 4) C dX2_parseNumber_89 (by decide) ?_
                rw [show (0 : Int) + f qx - 48 = (if ix + 1 = 0 then -1 else 10 * nv + f qx - 48) by rw [if_neg (by omega)]; omega]
                exact ih (ix + 1) (qx + 1) (10 * nv + f qx - 48) (by omega) (by omega) (by omega) (by omega) (by rw [h4, show mx - ix = (mx - (ix + 1)) + 1 by omega, dgP, if_pos hid]) (fun _ => by rw [← h6 hz]; exact hid) (fun hc => absurd hc (by omega))
            · have hnd : ¬ isDg f nI qx := fun hc => by have := hc.2.2; omega
              refine r_il2 (q := 49) C dX2_parseNumber_48 rfl ?_
              refine r_iret C hr dX2_parseNumber_49 (by decide) (by decide) ?_
              refine ⟨_, rfl, rfl, ?_, ?_, ?_⟩
              · by_cases hz : ix = 0
                · rw [if_pos hz, if_neg (fun hc => hnd (by rw [h6 hz]; exact hc))]
                · rw [if_neg hz, if_pos (h5 hz), h4, show dgP f nI (mx - ix) qx nv = (qx, nv) by rw [show mx - ix = (mx - ix - 1) + 1 by omega, dgP, if_neg hnd]]
              · rw [h4, show dgP f nI (mx - ix) qx nv = (qx, nv) by rw [show mx - ix = (mx - ix - 1) + 1 by omega, dgP, if_neg hnd]]
              · split <;> omega
  refine r_iconst (q := 1) C dX2_parseNumber_0 rfl ?_
  refine r_is2 (q := 2) C dX2_parseNumber_1 rfl (by decide) ?_
  refine r_iconst (q := 3) C dX2_parseNumber_2 rfl ?_
  refine r_is3 (q := 4) C dX2_parseNumber_3 rfl (by decide) ?_
  have h0 := lp _ 0 px 0 (Nat.lt_succ_self _) (by omega) hpx (Or.inl ⟨rfl, rfl⟩) rfl (fun hc => absurd rfl hc) (fun _ => rfl)
  rw [o_up_self hat] at h0
  exact h0
