/-! the law: from its entry to its end -/
abbrev law_T0 : oT := (0, fun _ => (0, 0), fun _ _ => none)
abbrev law_M0 : oM := fun _ _ => 0
theorem law_begin {p : Program} {l : Launch} {e : Env} {s : State} {m : MethodId} {args : Array Value} {below : List Frame} {meth : Method} {c : Code} {G : oG} {b ad L : Nat} {xs : Nat → Int32} {Q : State → Prop} (C : oCx p s m args meth c G b RL cL_law 4) (hX : va_X ad L xs s s.heap) (had : ad < b) (hL : L ≤ 3072)
    (hend : ∀ (T : oT) (σ : oM) (k n xC mC : Nat) (i : Int), k ≤ 600000 → n ≤ 7302250 → oW p l e room_1 s m args below meth c G b 4 k n Q T σ 1695 [some (oa ad), some (og xC), some (og mC), some (oi i)] []) :
    oW p l e room_1 s m args below meth c G b 4 0 0 Q law_T0 law_M0 0 [some (oa ad), none, none, none] [] := by
  refine r_new (q := 3) (N0 := 11) C nw_L_7 rfl dL_law_0 rfl ⟨Nat.le_of_ble_eq_true rfl, Nat.le_of_ble_eq_true rfl⟩ ?_
  refine r_dup (q := 4) C dL_law_3 rfl ?_
  refine r_callI (q := 7) C (c_X8_init (aC := law_T0.1) o_new_s rfl) m_L_9 dL_law_4 rfl rfl ⟨Nat.le_of_ble_eq_true rfl, Nat.le_of_ble_eq_true rfl⟩ ⟨Nat.le_of_ble_eq_true rfl, Nat.le_of_ble_eq_true rfl⟩ (Nat.le_of_ble_eq_true rfl) (fun r2 T2 σ2 h2 => ?_)
  obtain ⟨rfl, hC, hN0⟩ := h2
  simp only [Option.toList_none, List.nil_append]
  have hN := oNx_new hN0
  have t2 : T2.1 = 1227 := hN.1
  refine r_as1 (q := 8) C dL_law_7 rfl (by decide) ?_
  refine r_new (q := 11) (N0 := 28) C nw_L_10 rfl dL_law_8 rfl ⟨Nat.le_of_ble_eq_true rfl, Nat.le_of_ble_eq_true rfl⟩ ?_
  refine r_dup (q := 12) C dL_law_11 rfl ?_
  refine r_callI (q := 15) C (c_X9_init (aC := T2.1) o_new_s rfl) m_L_12 dL_law_12 rfl rfl ⟨Nat.le_of_ble_eq_true rfl, Nat.le_of_ble_eq_true rfl⟩ ⟨Nat.le_of_ble_eq_true rfl, Nat.le_of_ble_eq_true rfl⟩ (Nat.le_of_ble_eq_true rfl) (fun r3 T3 σ3 h3 => ?_)
  obtain ⟨rfl, hM⟩ := h3
  simp only [Option.toList_none, List.nil_append]
  refine r_as2 (q := 16) C dL_law_15 rfl (by decide) ?_
  refine r_iconst (q := 17) C dL_law_16 rfl ?_
  refine r_is3 (q := 18) C dL_law_17 rfl (by decide) ?_
  have hmx : law_T0.1 + 1227 ≤ T2.1 := by
    show 0 + 1227 ≤ T2.1
    omega
  refine law_loop C hX had hL hmx (Bo := 0) ⟨Int.le_refl _, by decide⟩ (fun T σ k n i hk hn => hend T σ k n _ _ i hk hn) 513 0 0 _ _ T3 σ3 (by decide) rfl (Nat.zero_le _) (Nat.le_of_ble_eq_true rfl) (Nat.le_of_ble_eq_true rfl) ?_
  exact oLS_0 rfl hmx hC hM
/-- from the entry, for every script of at most 3072 ints, the law comes to its end with true -/
theorem whole_start {p : Program} {e : Env} {s : State} {m : MethodId} {below : List Frame} {meth : Method} {c : Code} (l : Launch) (hflags : l.flags = flags0) {b L : Nat} {xs : Nat → Int32} (hL : L ≤ 3072) (C0 : lw_At p s m meth c b L xs) : W p l e room_1 s m #[Value.ref b] below meth c s.heap [] 0 0 (lw_Z below #[Value.ref b] s) (entryFrame m ([Value.ref b] : List Value).toArray 4) := by
  obtain ⟨hx, hb, hr, hml, hown, hts, hX, hbl, hlocks, hgv⟩ := id C0
  obtain ⟨G, hK, hG⟩ := law_K hts hgv
  have C : oCx p s m #[Value.ref b] meth c G s.heap.size RL cL_law 4 := ⟨hx, hb, hml, hown, oALL_hts hts, hK, Nat.le_refl _, hlocks⟩
  have hl := lv_entry ([.ref b]) (n := 4) (Nat.le_of_ble_eq_true rfl)
  rw [lg_entry_eq]
  generalize (lg_sl ([.ref b]) ++ List.replicate (4 - (lg_sl ([.ref b])).length) Slot.unset).toArray = ls at hl ⊢
  have hl : lv_has ls 4 (o_lv s.heap.size 0 [some (oa b), none, none, none]) := hl
  have hW : o_W G s.heap.size law_T0 law_M0 s.heap := ⟨rfl, fun x hx => absurd hx (Nat.not_lt_zero _), fun q _ => by rw [hG]⟩
  have hS : va_S (fun q : Nat => s.heap.size ≤ q) s.heap s.heap [] := va_S.rf
  refine law_begin (l := l) (e := e) (below := below) (Q := lw_Z below #[Value.ref b] s) C hX hbl hL (fun T σ k n xC mC i hk hn => ?_) s.heap [] ls hW hS hl
  refine r_iconst (q := 1696) C dL_law_1695 rfl ?_
  intro H locs la hW2 hS2 hl2
  refine va_forget hS2.2.2 ?_
  refine W.widen hk hn ?_
  refine W.base ?_
  exact lw_ret (Drawn.sameBut.refl s.drawn lw_cs) hx hb hr hlocks dL_law_1696
