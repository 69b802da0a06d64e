set_option maxRecDepth 20000 in
set_option maxHeartbeats 8000000 in
theorem c_X8_isString {T : oT} {σ : oM} {z : Int} (hz : o_r z) : MS yX8_isString cX8_isString 1 (some FieldType.boolean) 1 0 0 22 [oi z] T σ (oPb (0 ≤ z ∧ z ≤ 3) T σ) := by
  refine o_met (by decide +kernel) (Nat.le_of_ble_eq_true rfl) (fun p l ee s m args below meth c G b C hr hn => ?_)
  have C : oCx p s m args meth c G b RX8 cX8_isString 1 := C
  show oW p l ee ({ frames := 1, cells := 0, slots := 0, locals := 22 } : Room) s m args below meth c G b 1 0 0 (MQ below (o_Qc G b (oPb (0 ≤ z ∧ z ≤ 3) T σ)) args s 0 0 (fun q => b ≤ q)) T σ 0 [some (oi z)] []
  refine r_il0 (q := 1) C dX8_isString_0 rfl ?_
  refine r_iconst (q := 2) C dX8_isString_1 rfl ?_
  refine r_iconst (q := 3) C dX8_isString_2 rfl ?_
  refine r_callSb (q := 6) C (c_X8_within hz (by omega) (by omega)) m_X8_68 dX8_isString_3 rfl rfl (by decide) (by decide) (Nat.le_of_ble_eq_true rfl) (fun br3 => ?_) (fun br3 => ?_)
  · exact r_zret C hr dX8_isString_6 (by decide) (by decide) (by decide) ⟨Or.inl ⟨br3, rfl⟩, rfl, rfl⟩
  · exact r_zret C hr dX8_isString_6 (by decide) (by decide) (by decide) ⟨Or.inr ⟨br3, rfl⟩, rfl, rfl⟩
set_option maxRecDepth 20000 in
set_option maxHeartbeats 8000000 in
theorem c_X3_begin {T : oT} {σ : oM} {qC : Nat} {Lr : List oRun} {kd bx tx lx : Int} (hq : oCm T qC) (hL : oRL σ qC Lr) (hlen : Lr.length < 198) : MS yX3_begin cX3_begin 5 none 0 0 0 0 [og qC, oi kd, oi bx, oi tx, oi lx] T σ (oPv (fun σ2 => σ2 = o_bgn σ qC Lr.length kd bx tx lx) T) := by
  have hqc := hq
  obtain ⟨hq0, hq3, hq4, hq5, hq6, hq7, hq8, hq9, hqA, hqT⟩ := hqc
  have hlc := hL.1
  refine o_met (by decide +kernel) (Nat.le_of_ble_eq_true rfl) (fun p l ee s m args below meth c G b C hr hn => ?_)
  have C : oCx p s m args meth c G b RX3 cX3_begin 5 := C
  show oW p l ee ({ frames := 0, cells := 0, slots := 0, locals := 0 } : Room) s m args below meth c G b 5 0 0 (MQ below (o_Qc G b (oPv (fun σ2 => σ2 = o_bgn σ qC Lr.length kd bx tx lx) T)) args s 0 0 (fun q => b ≤ q)) T σ 0 [some (og qC), some (oi kd), some (oi bx), some (oi tx), some (oi lx)] []
  refine r_al0 (q := 1) C dX3_begin_0 rfl ?_
  refine r_getI (q := 4) C f_X3_31 dX3_begin_1 rfl rfl (by assumption) (by omega) ?_
  rw [hlc]
  refine r_sipush (q := 7) C dX3_begin_4 (by decide) rfl ?_
  refine r_icge_f (q := 61) (q2 := 10) C (by omega) (by omega) (by omega) dX3_begin_7 (by decide) rfl ?_
  refine r_al0 (q := 11) C dX3_begin_10 rfl ?_
  refine r_getR (q := 14) C f_X3_11 dX3_begin_11 rfl rfl (by assumption) (by assumption) (by omega) ?_
  refine r_al0 (q := 15) C dX3_begin_14 rfl ?_
  refine r_getI (q := 18) C f_X3_31 dX3_begin_15 rfl rfl (by assumption) (by omega) ?_
  rw [show (σ) qC 2 = (Lr.length : Int) by rw [hlc]]
  refine r_il1 (q := 19) C dX3_begin_18 rfl ?_
  refine r_iast (q := 20) C (Lr.length) dX3_begin_19 rfl (by assumption) (by omega) (by omega) (by omega) (by decide) ?_
  refine r_al0 (q := 21) C dX3_begin_20 rfl ?_
  refine r_getR (q := 24) C f_X3_15 dX3_begin_21 rfl rfl (by assumption) (by assumption) (by omega) ?_
  refine r_al0 (q := 25) C dX3_begin_24 rfl ?_
  refine r_getI (q := 28) C f_X3_31 dX3_begin_25 rfl rfl (by assumption) (by omega) ?_
  rw [show (o_up σ (qC + 1) Lr.length kd) qC 2 = (Lr.length : Int) by rw [o_up_ne (by omega), hlc]]
  refine r_il2 (q := 29) C dX3_begin_28 rfl ?_
  refine r_iast (q := 30) C (Lr.length) dX3_begin_29 rfl (by assumption) (by omega) (by omega) (by omega) (by decide) ?_
  refine r_al0 (q := 31) C dX3_begin_30 rfl ?_
  refine r_getR (q := 34) C f_X3_18 dX3_begin_31 rfl rfl (by assumption) (by assumption) (by omega) ?_
  refine r_al0 (q := 35) C dX3_begin_34 rfl ?_
  refine r_getI (q := 38) C f_X3_31 dX3_begin_35 rfl rfl (by assumption) (by omega) ?_
  rw [show (o_up (o_up σ (qC + 1) Lr.length kd) (qC + 2) Lr.length bx) qC 2 = (Lr.length : Int) by rw [o_up_ne (by omega), o_up_ne (by omega), hlc]]
  refine r_il3 (q := 39) C dX3_begin_38 rfl ?_
  refine r_iast (q := 40) C (Lr.length) dX3_begin_39 rfl (by assumption) (by omega) (by omega) (by omega) (by decide) ?_
  refine r_al0 (q := 41) C dX3_begin_40 rfl ?_
  refine r_getR (q := 44) C f_X3_21 dX3_begin_41 rfl rfl (by assumption) (by assumption) (by omega) ?_
  refine r_al0 (q := 45) C dX3_begin_44 rfl ?_
  refine r_getI (q := 48) C f_X3_31 dX3_begin_45 rfl rfl (by assumption) (by omega) ?_
  rw [show (o_up (o_up (o_up σ (qC + 1) Lr.length kd) (qC + 2) Lr.length bx) (qC + 3) Lr.length tx) qC 2 = (Lr.length : Int) by rw [o_up_ne (by omega), o_up_ne (by omega), o_up_ne (by omega), hlc]]
  refine r_il4 (q := 50) C dX3_begin_48 rfl ?_
  refine r_iast (q := 51) C (Lr.length) dX3_begin_50 rfl (by assumption) (by omega) (by omega) (by omega) (by decide) ?_
  refine r_al0 (q := 52) C dX3_begin_51 rfl ?_
  refine r_dup (q := 53) C dX3_begin_52 rfl ?_
  refine r_getI (q := 56) C f_X3_31 dX3_begin_53 rfl rfl (by assumption) (by omega) ?_
  rw [show (o_up (o_up (o_up (o_up σ (qC + 1) Lr.length kd) (qC + 2) Lr.length bx) (qC + 3) Lr.length tx) (qC + 4) Lr.length lx) qC 2 = (Lr.length : Int) by rw [o_up_ne (by omega), o_up_ne (by omega), o_up_ne (by omega), o_up_ne (by omega), hlc]]
  refine r_iconst (q := 57) C dX3_begin_56 rfl ?_
  refine r_iadd (q := 58) C dX3_begin_57 rfl ?_
  refine r_putI (q := 61) C fp_X3_31 dX3_begin_58 rfl rfl (by assumption) (by omega) ?_
  exact r_vret C hr dX3_begin_61 (by decide) (by decide) ⟨rfl, rfl, rfl⟩
set_option maxRecDepth 20000 in
set_option maxHeartbeats 8000000 in
theorem c_X3_extendOrBegin {T : oT} {σ : oM} {qC : Nat} {Lr : List oRun} {kd bx tx : Int} (hq : oCm T qC) (hL : oRL σ qC Lr) (hlen : Lr.length < 198) (hb : oRb Lr) (hkd : o_r kd) (hbx : o_r bx) : MS yX3_extendOrBegin cX3_extendOrBegin 5 none 1 0 0 24 [og qC, oi kd, oi bx, oi tx] T σ (oPv (fun σ2 => oCmR σ σ2 qC (extL Lr kd bx tx) (σ qC 0) (σ qC 1)) T) := by
  have hqc := hq
  obtain ⟨hq0, hq3, hq4, hq5, hq6, hq7, hq8, hq9, hqA, hqT⟩ := hqc
  have hlc := hL.1
  refine o_met (by decide +kernel) (Nat.le_of_ble_eq_true rfl) (fun p l ee s m args below meth c G b C hr hn => ?_)
  have C : oCx p s m args meth c G b RX3 cX3_extendOrBegin 5 := C
  show oW p l ee ({ frames := 1, cells := 0, slots := 0, locals := 24 } : Room) s m args below meth c G b 5 0 0 (MQ below (o_Qc G b (oPv (fun σ2 => oCmR σ σ2 qC (extL Lr kd bx tx) (σ qC 0) (σ qC 1)) T)) args s 0 0 (fun q => b ≤ q)) T σ 0 [some (og qC), some (oi kd), some (oi bx), some (oi tx), none] []
  refine r_al0 (q := 1) C dX3_extendOrBegin_0 rfl ?_
  refine r_getI (q := 4) C f_X3_31 dX3_extendOrBegin_1 rfl rfl (by assumption) (by omega) ?_
  refine r_iconst (q := 5) C dX3_extendOrBegin_4 rfl ?_
  refine r_isub (q := 6) C dX3_extendOrBegin_5 rfl ?_
  refine r_is4 (q := 8) C dX3_extendOrBegin_6 rfl (by decide) ?_
  refine r_il4 (q := 10) C dX3_extendOrBegin_8 rfl ?_
  refine r_iflt (q := 57) (q2 := 13) C (by omega) dX3_extendOrBegin_10 (by decide) rfl (fun br10 => ?_) (fun br10 => ?_)
  · refine r_al0 (q := 58) C dX3_extendOrBegin_57 rfl ?_
    refine r_il1 (q := 59) C dX3_extendOrBegin_58 rfl ?_
    refine r_il2 (q := 60) C dX3_extendOrBegin_59 rfl ?_
    refine r_il3 (q := 61) C dX3_extendOrBegin_60 rfl ?_
    refine r_iconst (q := 62) C dX3_extendOrBegin_61 rfl ?_
    refine r_callVv (q := 65) C (c_X3_begin hq hL hlen) m_X3_60 (by assumption) (by omega) dX3_extendOrBegin_62 rfl rfl (by decide) (by decide) (Nat.le_of_ble_eq_true rfl) (fun σ2 hσ2 => ?_)
    refine r_vret C hr dX3_extendOrBegin_65 (by decide) (by decide) ?_
    subst hσ2
    exact ⟨rfl, rfl, by rw [extL_0 (by omega)]; exact o_bgn_R hL⟩
  · obtain ⟨nr, rx, hnr, hgl, hrm, hr1, hr2, hr3, hr4⟩ := oRL_last hL (by omega)
    obtain ⟨hx1, hx2, hx3, hx4⟩ := hb rx hrm
    have hnl : σ qC 2 - 1 = ((nr : Nat) : Int) := by omega
    rw [hnl]
    refine r_al0 (q := 14) C dX3_extendOrBegin_13 rfl ?_
    refine r_getR (q := 17) C f_X3_11 dX3_extendOrBegin_14 rfl rfl (by assumption) (by assumption) (by omega) ?_
    refine r_il4 (q := 19) C dX3_extendOrBegin_17 rfl ?_
    refine r_iald (q := 20) C (nr) dX3_extendOrBegin_19 rfl (by assumption) (by omega) (by omega) (by omega) (by decide) ?_
    rw [hr1]
    refine r_il1 (q := 21) C dX3_extendOrBegin_20 rfl ?_
    refine r_icne (q := 57) (q2 := 24) C (by omega) (by omega) dX3_extendOrBegin_21 (by decide) rfl (fun br21 => ?_) (fun br21 => ?_)
    · refine r_al0 (q := 58) C dX3_extendOrBegin_57 rfl ?_
      refine r_il1 (q := 59) C dX3_extendOrBegin_58 rfl ?_
      refine r_il2 (q := 60) C dX3_extendOrBegin_59 rfl ?_
      refine r_il3 (q := 61) C dX3_extendOrBegin_60 rfl ?_
      refine r_iconst (q := 62) C dX3_extendOrBegin_61 rfl ?_
      refine r_callVv (q := 65) C (c_X3_begin hq hL hlen) m_X3_60 (by assumption) (by omega) dX3_extendOrBegin_62 rfl rfl (by decide) (by decide) (Nat.le_of_ble_eq_true rfl) (fun σ2 hσ2 => ?_)
      refine r_vret C hr dX3_extendOrBegin_65 (by decide) (by decide) ?_
      subst hσ2
      exact ⟨rfl, rfl, by rw [extL_n hgl (fun hc => br21 hc.1)]; exact o_bgn_R hL⟩
    · refine r_al0 (q := 25) C dX3_extendOrBegin_24 rfl ?_
      refine r_getR (q := 28) C f_X3_15 dX3_extendOrBegin_25 rfl rfl (by assumption) (by assumption) (by omega) ?_
      refine r_il4 (q := 30) C dX3_extendOrBegin_28 rfl ?_
      refine r_iald (q := 31) C (nr) dX3_extendOrBegin_30 rfl (by assumption) (by omega) (by omega) (by omega) (by decide) ?_
      refine r_al0 (q := 32) C dX3_extendOrBegin_31 rfl ?_
      refine r_getR (q := 35) C f_X3_21 dX3_extendOrBegin_32 rfl rfl (by assumption) (by assumption) (by omega) ?_
      refine r_il4 (q := 37) C dX3_extendOrBegin_35 rfl ?_
      refine r_iald (q := 38) C (nr) dX3_extendOrBegin_37 rfl (by assumption) (by omega) (by omega) (by omega) (by decide) ?_
      rw [hr2, hr4]
      refine r_iadd (q := 39) C dX3_extendOrBegin_38 rfl ?_
      refine r_il2 (q := 40) C dX3_extendOrBegin_39 rfl ?_
      refine r_icne (q := 57) (q2 := 43) C (by omega) (by omega) dX3_extendOrBegin_40 (by decide) rfl (fun br40 => ?_) (fun br40 => ?_)
      · refine r_al0 (q := 58) C dX3_extendOrBegin_57 rfl ?_
        refine r_il1 (q := 59) C dX3_extendOrBegin_58 rfl ?_
        refine r_il2 (q := 60) C dX3_extendOrBegin_59 rfl ?_
        refine r_il3 (q := 61) C dX3_extendOrBegin_60 rfl ?_
        refine r_iconst (q := 62) C dX3_extendOrBegin_61 rfl ?_
        refine r_callVv (q := 65) C (c_X3_begin hq hL hlen) m_X3_60 (by assumption) (by omega) dX3_extendOrBegin_62 rfl rfl (by decide) (by decide) (Nat.le_of_ble_eq_true rfl) (fun σ2 hσ2 => ?_)
        refine r_vret C hr dX3_extendOrBegin_65 (by decide) (by decide) ?_
        subst hσ2
        exact ⟨rfl, rfl, by rw [extL_n hgl (fun hc => br40 hc.2)]; exact o_bgn_R hL⟩
      · refine r_al0 (q := 44) C dX3_extendOrBegin_43 rfl ?_
        refine r_getR (q := 47) C f_X3_21 dX3_extendOrBegin_44 rfl rfl (by assumption) (by assumption) (by omega) ?_
        refine r_il4 (q := 49) C dX3_extendOrBegin_47 rfl ?_
        refine r_dup2 (q := 50) C dX3_extendOrBegin_49 rfl ?_
        refine r_iald (q := 51) C (nr) dX3_extendOrBegin_50 rfl (by assumption) (by omega) (by omega) (by omega) (by decide) ?_
        rw [hr4]
        refine r_iconst (q := 52) C dX3_extendOrBegin_51 rfl ?_
        refine r_iadd (q := 53) C dX3_extendOrBegin_52 rfl ?_
        refine r_iast (q := 54) C (nr) dX3_extendOrBegin_53 rfl (by assumption) (by omega) (by omega) (by omega) (by decide) ?_
        refine r_goto (q := 65) C dX3_extendOrBegin_54 (by decide) ?_
        refine r_vret C hr dX3_extendOrBegin_65 (by decide) (by decide) ?_
        exact ⟨rfl, rfl, by rw [extL_y hgl ⟨br21, br40⟩]; exact o_ext_R hL hgl hnr⟩
set_option maxRecDepth 20000 in
set_option maxHeartbeats 8000000 in
theorem c_X3_addGap {T : oT} {σ : oM} {qC : Nat} {Lr : List oRun} {bh fx tx : Int} (hq : oCm T qC) (hL : oRL σ qC Lr) (hlen : fx ≤ tx → Lr.length < 198) (hfx : o_r fx) (htx : o_r tx) : MS yX3_addGap cX3_addGap 4 none 1 0 0 24 [og qC, oi bh, oi fx, oi tx] T σ (oPv (fun σ2 => oCmR σ σ2 qC (gapL Lr bh fx tx) (σ qC 0) (σ qC 1)) T) := by
  have hqc := hq
  obtain ⟨hq0, hq3, hq4, hq5, hq6, hq7, hq8, hq9, hqA, hqT⟩ := hqc
  have hlc := hL.1
  refine o_met (by decide +kernel) (Nat.le_of_ble_eq_true rfl) (fun p l ee s m args below meth c G b C hr hn => ?_)
  have C : oCx p s m args meth c G b RX3 cX3_addGap 4 := C
  show oW p l ee ({ frames := 1, cells := 0, slots := 0, locals := 24 } : Room) s m args below meth c G b 4 0 0 (MQ below (o_Qc G b (oPv (fun σ2 => oCmR σ σ2 qC (gapL Lr bh fx tx) (σ qC 0) (σ qC 1)) T)) args s 0 0 (fun q => b ≤ q)) T σ 0 [some (og qC), some (oi bh), some (oi fx), some (oi tx)] []
  refine r_il2 (q := 1) C dX3_addGap_0 rfl ?_
  refine r_il3 (q := 2) C dX3_addGap_1 rfl ?_
  refine r_icgt (q := 17) (q2 := 5) C (by omega) (by omega) dX3_addGap_2 (by decide) rfl (fun br2 => ?_) (fun br2 => ?_)
  · exact r_vret C hr dX3_addGap_17 (by decide) (by decide) ⟨rfl, rfl, by rw [gapL, if_neg (by omega)]; exact oCmR_rf hL⟩
  · refine r_al0 (q := 6) C dX3_addGap_5 rfl ?_
    refine r_iconst (q := 7) C dX3_addGap_6 rfl ?_
    refine r_il1 (q := 8) C dX3_addGap_7 rfl ?_
    refine r_il2 (q := 9) C dX3_addGap_8 rfl ?_
    refine r_il3 (q := 10) C dX3_addGap_9 rfl ?_
    refine r_il2 (q := 11) C dX3_addGap_10 rfl ?_
    refine r_isub (q := 12) C dX3_addGap_11 rfl ?_
    refine r_iconst (q := 13) C dX3_addGap_12 rfl ?_
    refine r_iadd (q := 14) C dX3_addGap_13 rfl ?_
    refine r_callVv (q := 17) C (c_X3_begin hq hL (hlen (by omega))) m_X3_60 (by assumption) (by omega) dX3_addGap_14 rfl rfl (by decide) (by decide) (Nat.le_of_ble_eq_true rfl) (fun σ2 hσ2 => ?_)
    refine r_vret C hr dX3_addGap_17 (by decide) (by decide) ?_
    subst hσ2
    exact ⟨rfl, rfl, by rw [gapL, if_pos (by omega)]; exact o_bgn_R hL⟩
set_option maxRecDepth 20000 in
set_option maxHeartbeats 8000000 in
theorem c_X3_addFacing {T : oT} {σ : oM} {qC : Nat} {Lr : List oRun} {zv bx tx : Int} (hq : oCm T qC) (hL : oRL σ qC Lr) (hlen : Lr.length < 198) (hb : oRb Lr) (hzv : zv = 0 ∨ zv = 1) (hbx : o_r bx) : MS yX3_addFacing cX3_addFacing 4 none 2 0 0 48 [og qC, oi zv, oi bx, oi tx] T σ (oPv (fun σ2 => oCmR σ σ2 qC (if zv = 0 then extL Lr 3 bx tx else Lr) (σ qC 0 + 1) (if zv = 0 then σ qC 1 else σ qC 1 + 1)) T) := by
  have hqc := hq
  obtain ⟨hq0, hq3, hq4, hq5, hq6, hq7, hq8, hq9, hqA, hqT⟩ := hqc
  have hlc := hL.1
  refine o_met (by decide +kernel) (Nat.le_of_ble_eq_true rfl) (fun p l ee s m args below meth c G b C hr hn => ?_)
  have C : oCx p s m args meth c G b RX3 cX3_addFacing 4 := C
  show oW p l ee ({ frames := 2, cells := 0, slots := 0, locals := 48 } : Room) s m args below meth c G b 4 0 0 (MQ below (o_Qc G b (oPv (fun σ2 => oCmR σ σ2 qC (if zv = 0 then extL Lr 3 bx tx else Lr) (σ qC 0 + 1) (if zv = 0 then σ qC 1 else σ qC 1 + 1)) T)) args s 0 0 (fun q => b ≤ q)) T σ 0 [some (og qC), some (oi zv), some (oi bx), some (oi tx)] []
  refine r_al0 (q := 1) C dX3_addFacing_0 rfl ?_
  refine r_dup (q := 2) C dX3_addFacing_1 rfl ?_
  refine r_getI (q := 5) C f_X3_24 dX3_addFacing_2 rfl rfl (by assumption) (by omega) ?_
  refine r_iconst (q := 6) C dX3_addFacing_5 rfl ?_
  refine r_iadd (q := 7) C dX3_addFacing_6 rfl ?_
  refine r_putI (q := 10) C fp_X3_24 dX3_addFacing_7 rfl rfl (by assumption) (by omega) ?_
  refine r_il1 (q := 11) C dX3_addFacing_10 rfl ?_
  have hL1 : oRL (o_up σ qC 0 (σ qC 0 + 1)) qC Lr := oRL_fr hL (o_up_nj (Or.inr (by decide))) (fun x h1 h2 => o_up_ne (by omega))
  have h11 : (o_up σ qC 0 (σ qC 0 + 1)) qC 1 = σ qC 1 := o_up_nj (Or.inr (by decide))
  refine r_ifeq (q := 27) (q2 := 14) C (by omega) dX3_addFacing_11 (by decide) rfl (fun br11 => ?_) (fun br11 => ?_)
  · refine r_al0 (q := 28) C dX3_addFacing_27 rfl ?_
    refine r_iconst (q := 29) C dX3_addFacing_28 rfl ?_
    refine r_il2 (q := 30) C dX3_addFacing_29 rfl ?_
    refine r_il3 (q := 31) C dX3_addFacing_30 rfl ?_
    refine r_callVv (q := 34) C (c_X3_extendOrBegin hq hL1 hlen hb (by omega) hbx) m_X3_46 (by assumption) (by omega) dX3_addFacing_31 rfl rfl (by decide) (by decide) (Nat.le_of_ble_eq_true rfl) (fun σ2 hσ2 => ?_)
    refine r_vret C hr dX3_addFacing_34 (by decide) (by decide) ?_
    refine ⟨rfl, rfl, ?_⟩
    rw [if_pos br11, if_pos br11]
    exact ⟨hσ2.1, by rw [hσ2.2.1, o_up_at], by rw [hσ2.2.2.1, h11], fun x hx => by rw [hσ2.2.2.2 x hx, o_up_ne (by omega)]⟩
  · refine r_al0 (q := 15) C dX3_addFacing_14 rfl ?_
    refine r_dup (q := 16) C dX3_addFacing_15 rfl ?_
    refine r_getI (q := 19) C f_X3_28 dX3_addFacing_16 rfl rfl (by assumption) (by omega) ?_
    refine r_iconst (q := 20) C dX3_addFacing_19 rfl ?_
    rw [h11]
    refine r_iadd (q := 21) C dX3_addFacing_20 rfl ?_
    refine r_putI (q := 24) C fp_X3_28 dX3_addFacing_21 rfl rfl (by assumption) (by omega) ?_
    refine r_goto (q := 34) C dX3_addFacing_24 (by decide) ?_
    refine r_vret C hr dX3_addFacing_34 (by decide) (by decide) ?_
    refine ⟨rfl, rfl, ?_⟩
    rw [if_neg br11, if_neg br11]
    exact ⟨oRL_fr hL1 (o_up_nj (Or.inr (by decide))) (fun x h1 h2 => o_up_ne (by omega)), by rw [o_up_nj (Or.inr (by decide)), o_up_at], o_up_at, fun x hx => by rw [o_up_ne (by omega), o_up_ne (by omega)]⟩
set_option maxRecDepth 20000 in
set_option maxHeartbeats 8000000 in
theorem c_X3_trace {T : oT} {σ : oM} {qC eC aC B1 B2 : Nat} (hq : oCm T qC) (hE : oEd T eC) (hA : oEd T aC) (hd1 : eC + 13 ≤ qC ∨ qC + 5 ≤ eC) (hd2 : aC + 13 ≤ qC ∨ qC + 5 ≤ aC) (hb1 : σ eC 2 = (B1 : Int)) (hb19 : B1 ≤ 99) (hb2n : σ aC 2 = (B2 : Int)) (hb2 : B2 ≤ 99) (hoe : ∀ jx, 1 ≤ jx → jx ≤ B1 → o_r (σ (eC + 1) jx)) (hoa : ∀ jx, 1 ≤ jx → jx ≤ B2 → o_r (σ (aC + 1) jx)) (hve : ∀ jx, 1 ≤ jx → jx ≤ B1 → o_r (σ (eC + 2) jx)) (hva : ∀ jx, 1 ≤ jx → jx ≤ B2 → o_r (σ (aC + 2) jx)) : MS yX3_trace cX3_trace 6 none 3 0 0 71 [og qC, og eC, og aC] T σ (oPv (fun σ2 => oCmR σ σ2 qC (trL (σ (eC + 1)) (σ (eC + 2)) (σ (aC + 1)) (σ (aC + 2)) B1 B2) (((trM σ eC aC B2 B1).2.1 : Nat) : Int) (((trM σ eC aC B2 B1).2.2.1 : Nat) : Int)) T) := by
  have hqc := hq
  obtain ⟨hq0, hq3, hq4, hq5, hq6, hq7, hq8, hq9, hqA, hqT⟩ := hqc
  have hEc := hE
  obtain ⟨hE0, hE3, hE4, hE5, hE6, hE7, hE8, hE9, hE10, hA1, hA2, hA3, hA4, hA5, hRw, hA10, hA11, hA12, hTe⟩ := hEc
  have hAc := hA
  obtain ⟨hQ0, hQ3, hQ4, hQ5, hQ6, hQ7, hQ8, hQ9, hQ10, hQA1, hQA2, hQA3, hQA4, hQA5, hQw, hQA10, hQA11, hQA12, hQT⟩ := hAc
  refine o_met (by decide +kernel) (Nat.le_of_ble_eq_true rfl) (fun p l ee s m args below meth c G b C hr hn => ?_)
  have C : oCx p s m args meth c G b RX3 cX3_trace 6 := C
  show oW p l ee ({ frames := 3, cells := 0, slots := 0, locals := 71 } : Room) s m args below meth c G b 6 0 0 (MQ below (o_Qc G b (oPv (fun σ2 => oCmR σ σ2 qC (trL (σ (eC + 1)) (σ (eC + 2)) (σ (aC + 1)) (σ (aC + 2)) B1 B2) (((trM σ eC aC B2 B1).2.1 : Nat) : Int) (((trM σ eC aC B2 B1).2.2.1 : Nat) : Int)) T)) args s 0 0 (fun q => b ≤ q)) T σ 0 [some (og qC), some (og eC), some (og aC), none, none, none] []
  have lp : ∀ (n : Nat) (w5 : Option oV) (σn : oM) (jx : Nat), B1 - jx < n → (jx ≤ B1) → (oCmR σ σn qC (trM σ eC aC B2 jx).2.2.2 (((trM σ eC aC B2 jx).2.1 : Nat) : Int) (((trM σ eC aC B2 jx).2.2.1 : Nat) : Int)) → oW p l ee ({ frames := 3, cells := 0, slots := 0, locals := 71 } : Room) s m args below meth c G b 6 0 0 (MQ below (o_Qc G b (oPv (fun σ2 => oCmR σ σ2 qC (trL (σ (eC + 1)) (σ (eC + 2)) (σ (aC + 1)) (σ (aC + 2)) B1 B2) (((trM σ eC aC B2 B1).2.1 : Nat) : Int) (((trM σ eC aC B2 B1).2.2.1 : Nat) : Int)) T)) args s 0 0 (fun q => b ≤ q)) T σn 20 [some (og qC), some (og eC), some (og aC), some (oi (((trM σ eC aC B2 jx).1 : Nat) : Int)), some (oi ((jx + 1 : Nat) : Int)), w5] [] := by
    intro n
    induction n with
    | zero =>
      intro w5 σn jx hms
      exact absurd hms (Nat.not_lt_zero _)
    | succ n ih =>
      intro w5 σn jx hms h1 h2
      have hti := trS_in (o1 := σ (eC + 1)) (v1 := σ (eC + 2)) (o2 := σ (aC + 1)) (v2 := σ (aC + 2)) (B2 := B2) jx
      change (trM σ eC aC B2 jx).1 ≤ B2 ∧ (trM σ eC aC B2 jx).2.2.2.length + (trM σ eC aC B2 jx).2.1 ≤ jx + (trM σ eC aC B2 jx).1 ∧ (trM σ eC aC B2 jx).2.1 ≤ jx ∧ (trM σ eC aC B2 jx).2.2.1 ≤ jx at hti
      have htb : oRb (trM σ eC aC B2 jx).2.2.2 := trS_b hb2 jx (by omega)
      have hfr := h2.2.2.2
      have hLn := h2.1
      refine r_il4 (q := 22) C dX3_trace_20 rfl ?_
      refine r_al1 (q := 23) C dX3_trace_22 rfl ?_
      refine r_getI (q := 26) C f_X3_34 dX3_trace_23 rfl rfl (by assumption) (by omega) ?_
      rw [show σn eC 2 = (B1 : Int) by rw [hfr eC (by omega)]; exact hb1]
      refine r_icgt (q := 115) (q2 := 29) C (by omega) (by omega) dX3_trace_26 (by decide) rfl (fun br26 => ?_) (fun br26 => ?_)
      · obtain rfl : jx = B1 := by omega
        refine r_al0 (q := 116) C dX3_trace_115 rfl ?_
        refine r_al1 (q := 117) C dX3_trace_116 rfl ?_
        refine r_getI (q := 120) C f_X3_34 dX3_trace_117 rfl rfl (by assumption) (by omega) ?_
        rw [show σn eC 2 = ((jx : Nat) : Int) by rw [hfr eC (by omega)]; exact hb1]
        refine r_il3 (q := 121) C dX3_trace_120 rfl ?_
        refine r_iconst (q := 122) C dX3_trace_121 rfl ?_
        refine r_iadd (q := 123) C dX3_trace_122 rfl ?_
        refine r_al2 (q := 124) C dX3_trace_123 rfl ?_
        refine r_getI (q := 127) C f_X3_34 dX3_trace_124 rfl rfl (by assumption) (by omega) ?_
        rw [show σn aC 2 = (B2 : Int) by rw [hfr aC (by omega)]; exact hb2n]
        refine r_callVv (q := 130) C (c_X3_addGap (bh := (jx : Int)) (fx := (((trM σ eC aC B2 jx).1 : Nat) : Int) + 1) (tx := (B2 : Int)) hq hLn (fun h => by omega) (by omega) (by omega)) m_X3_50 (by assumption) (by omega) dX3_trace_127 rfl rfl (by decide) (by decide) (Nat.le_of_ble_eq_true rfl) (fun σ2 hσ2 => ?_)
        refine r_vret C hr dX3_trace_130 (by decide) (by decide) ?_
        have hfin := oCmR_tr h2 hσ2
        rw [h2.2.1, h2.2.2.1] at hfin
        exact ⟨rfl, rfl, hfin⟩
      · refine r_al2 (q := 30) C dX3_trace_29 rfl ?_
        refine r_al1 (q := 31) C dX3_trace_30 rfl ?_
        refine r_getR (q := 34) C f_X3_39 dX3_trace_31 rfl rfl (by assumption) (by assumption) (by omega) ?_
        refine r_il4 (q := 36) C dX3_trace_34 rfl ?_
        refine r_iald (q := 37) C (jx + 1) dX3_trace_36 rfl (by assumption) (by omega) (by omega) (by omega) (by decide) ?_
        refine r_il3 (q := 38) C dX3_trace_37 rfl ?_
        refine r_iconst (q := 39) C dX3_trace_38 rfl ?_
        refine r_iadd (q := 40) C dX3_trace_39 rfl ?_
        rw [show σn (eC + 1) (jx + 1) = σ (eC + 1) (jx + 1) from congrFun (hfr _ (by omega)) _]
        refine r_callV1 (q := 43) C (c_X4_barWith (eC := aC) (Bn := B2) (fx := (trM σ eC aC B2 jx).1 + 1) (vx := σ (eC + 1) (jx + 1)) hA (by rw [hfr aC (by omega)]; exact hb2n) hb2 (by omega) (hoe _ (by omega) (by omega)) (fun j j1 j2 => by rw [hfr (aC + 1) (by omega)]; exact hoa j j1 j2)) m_X3_42 (by assumption) (by omega) dX3_trace_40 rfl rfl (by decide) (by decide) (Nat.le_of_ble_eq_true rfl) ?_
        rw [hfr (aC + 1) (by omega), show B2 + 1 - ((trM σ eC aC B2 jx).1 + 1) = B2 - (trM σ eC aC B2 jx).1 by omega]
        have hsp := fstAt_spec (f := σ (aC + 1)) (v := σ (eC + 1) (jx + 1)) (n := B2 - (trM σ eC aC B2 jx).1) (j := (trM σ eC aC B2 jx).1 + 1) (by omega)
        obtain ⟨thx, hthx⟩ : ∃ y, y = fstAt (σ (aC + 1)) (σ (eC + 1) (jx + 1)) (B2 - (trM σ eC aC B2 jx).1) ((trM σ eC aC B2 jx).1 + 1) := ⟨_, rfl⟩
        rw [← hthx] at hsp ⊢
        refine r_is5 (q := 45) C dX3_trace_43 rfl (by decide) ?_
        refine r_il5 (q := 47) C dX3_trace_45 rfl ?_
        refine r_ifne (q := 61) (q2 := 50) C (by omega) dX3_trace_47 (by decide) rfl (fun br47 => ?_) (fun br47 => ?_)
        · have hth : (trM σ eC aC B2 jx).1 + 1 ≤ thx ∧ thx < (trM σ eC aC B2 jx).1 + 1 + (B2 - (trM σ eC aC B2 jx).1) := by
            rcases hsp with ⟨hc, -⟩ | ⟨a1, a2, -, -⟩
            · exact absurd hc (by omega)
            · exact ⟨a1, a2⟩
          refine r_al0 (q := 62) C dX3_trace_61 rfl ?_
          refine r_il4 (q := 64) C dX3_trace_62 rfl ?_
          refine r_iconst (q := 65) C dX3_trace_64 rfl ?_
          refine r_isub (q := 66) C dX3_trace_65 rfl ?_
          refine r_il3 (q := 67) C dX3_trace_66 rfl ?_
          refine r_iconst (q := 68) C dX3_trace_67 rfl ?_
          refine r_iadd (q := 69) C dX3_trace_68 rfl ?_
          refine r_il5 (q := 71) C dX3_trace_69 rfl ?_
          refine r_iconst (q := 72) C dX3_trace_71 rfl ?_
          refine r_isub (q := 73) C dX3_trace_72 rfl ?_
          rw [show ((jx + 1 : Nat) : Int) - 1 = (jx : Int) by omega]
          refine r_callVv (q := 76) C (c_X3_addGap (bh := (jx : Int)) (fx := (((trM σ eC aC B2 jx).1 : Nat) : Int) + 1) (tx := (thx : Int) - 1) hq hLn (fun h => by omega) (by omega) (by omega)) m_X3_50 (by assumption) (by omega) dX3_trace_73 rfl rfl (by decide) (by decide) (Nat.le_of_ble_eq_true rfl) (fun σ2 hσ2 => ?_)
          have hR2 := oCmR_tr h2 hσ2
          rw [h2.2.1, h2.2.2.1] at hR2
          have hfr2 := hR2.2.2.2
          have hgl := gapL_len (trM σ eC aC B2 jx).2.2.2 (jx : Int) ((((trM σ eC aC B2 jx).1 : Nat) : Int) + 1) ((thx : Int) - 1)
          have hgb := oRb_gap (bh := (jx : Int)) (fx := (((trM σ eC aC B2 jx).1 : Nat) : Int) + 1) (tx := (thx : Int) - 1) htb (by omega) (by omega)
          have hglen : (gapL (trM σ eC aC B2 jx).2.2.2 (jx : Int) ((((trM σ eC aC B2 jx).1 : Nat) : Int) + 1) ((thx : Int) - 1)).length < 198 := by omega
          refine r_al0 (q := 77) C dX3_trace_76 rfl ?_
          refine r_al1 (q := 78) C dX3_trace_77 rfl ?_
          refine r_getR (q := 81) C f_X3_53 dX3_trace_78 rfl rfl (by assumption) (by assumption) (by omega) ?_
          refine r_il4 (q := 83) C dX3_trace_81 rfl ?_
          refine r_iald (q := 84) C (jx + 1) dX3_trace_83 rfl (by assumption) (by omega) (by omega) (by omega) (by decide) ?_
          refine r_al2 (q := 85) C dX3_trace_84 rfl ?_
          refine r_getR (q := 88) C f_X3_53 dX3_trace_85 rfl rfl (by assumption) (by assumption) (by omega) ?_
          refine r_il5 (q := 90) C dX3_trace_88 rfl ?_
          refine r_iald (q := 91) C (thx) dX3_trace_90 rfl (by assumption) (by omega) (by omega) (by omega) (by decide) ?_
          rw [show σ2 (eC + 2) (jx + 1) = σ (eC + 2) (jx + 1) from congrFun (hfr2 _ (by omega)) _, show σ2 (aC + 2) thx = σ (aC + 2) thx from congrFun (hfr2 _ (by omega)) _]
          refine r_icne (q := 98) (q2 := 94) C (hve _ (by omega) (by omega)) (hva _ (by omega) (by omega)) dX3_trace_91 (by decide) rfl (fun br91 => ?_) (fun br91 => ?_)
          · refine r_iconst (q := 99) C dX3_trace_98 rfl ?_
            refine r_il4 (q := 101) C dX3_trace_99 rfl ?_
            refine r_il5 (q := 103) C dX3_trace_101 rfl ?_
            refine r_callVv (q := 106) C (c_X3_addFacing (zv := 0) hq hR2.1 hglen hgb (by omega) (by omega)) m_X3_56 (by assumption) (by omega) dX3_trace_103 rfl rfl (by decide) (by decide) (Nat.le_of_ble_eq_true rfl) (fun σ4 hσ4 => ?_)
            rw [if_pos rfl, if_pos rfl] at hσ4
            have hfin := oCmR_tr hR2 hσ4
            rw [hR2.2.1, hR2.2.2.1] at hfin
            refine r_il5 (q := 108) C dX3_trace_106 rfl ?_
            refine r_is3 (q := 109) C dX3_trace_108 rfl (by decide) ?_
            refine r_iinc4 (q := 112) C dX3_trace_109 rfl (by decide) ?_
            refine r_goto (q := 20) C dX3_trace_112 (by decide) ?_
            have hk := ih (some (oi ((thx : Nat) : Int))) σ4 (jx + 1) (by omega) (by omega)
            rw [trM_s2 hthx (by omega) br91] at hk
            exact hk hfin
          · refine r_iconst (q := 95) C dX3_trace_94 rfl ?_
            refine r_goto (q := 99) C dX3_trace_95 (by decide) ?_
            refine r_il4 (q := 101) C dX3_trace_99 rfl ?_
            refine r_il5 (q := 103) C dX3_trace_101 rfl ?_
            refine r_callVv (q := 106) C (c_X3_addFacing (zv := 1) hq hR2.1 hglen hgb (by omega) (by omega)) m_X3_56 (by assumption) (by omega) dX3_trace_103 rfl rfl (by decide) (by decide) (Nat.le_of_ble_eq_true rfl) (fun σ4 hσ4 => ?_)
            rw [if_neg (by decide), if_neg (by decide)] at hσ4
            have hfin := oCmR_tr hR2 hσ4
            rw [hR2.2.1, hR2.2.2.1] at hfin
            refine r_il5 (q := 108) C dX3_trace_106 rfl ?_
            refine r_is3 (q := 109) C dX3_trace_108 rfl (by decide) ?_
            refine r_iinc4 (q := 112) C dX3_trace_109 rfl (by decide) ?_
            refine r_goto (q := 20) C dX3_trace_112 (by decide) ?_
            have hk := ih (some (oi ((thx : Nat) : Int))) σ4 (jx + 1) (by omega) (by omega)
            rw [trM_s1 hthx (by omega) br91] at hk
            exact hk hfin
        · refine r_al0 (q := 51) C dX3_trace_50 rfl ?_
          refine r_iconst (q := 52) C dX3_trace_51 rfl ?_
          refine r_il4 (q := 54) C dX3_trace_52 rfl ?_
          refine r_il3 (q := 55) C dX3_trace_54 rfl ?_
          refine r_callVv (q := 58) C (c_X3_extendOrBegin hq hLn (by omega) htb (by omega) (by omega)) m_X3_46 (by assumption) (by omega) dX3_trace_55 rfl rfl (by decide) (by decide) (Nat.le_of_ble_eq_true rfl) (fun σ4 hσ4 => ?_)
          have hfin := oCmR_tr h2 hσ4
          rw [h2.2.1, h2.2.2.1] at hfin
          refine r_goto (q := 109) C dX3_trace_58 (by decide) ?_
          refine r_iinc4 (q := 112) C dX3_trace_109 rfl (by decide) ?_
          refine r_goto (q := 20) C dX3_trace_112 (by decide) ?_
          have hk := ih (some (oi ((thx : Nat) : Int))) σ4 (jx + 1) (by omega) (by omega)
          rw [trM_s0 (hthx.symm.trans (by omega))] at hk
          exact hk hfin
  refine r_al0 (q := 1) C dX3_trace_0 rfl ?_
  refine r_iconst (q := 2) C dX3_trace_1 rfl ?_
  refine r_putI (q := 5) C fp_X3_24 dX3_trace_2 rfl rfl (by assumption) (by omega) ?_
  refine r_al0 (q := 6) C dX3_trace_5 rfl ?_
  refine r_iconst (q := 7) C dX3_trace_6 rfl ?_
  refine r_putI (q := 10) C fp_X3_28 dX3_trace_7 rfl rfl (by assumption) (by omega) ?_
  refine r_al0 (q := 11) C dX3_trace_10 rfl ?_
  refine r_iconst (q := 12) C dX3_trace_11 rfl ?_
  refine r_putI (q := 15) C fp_X3_31 dX3_trace_12 rfl rfl (by assumption) (by omega) ?_
  refine r_iconst (q := 16) C dX3_trace_15 rfl ?_
  refine r_is3 (q := 17) C dX3_trace_16 rfl (by decide) ?_
  refine r_iconst (q := 18) C dX3_trace_17 rfl ?_
  refine r_is4 (q := 20) C dX3_trace_18 rfl (by decide) ?_
  exact lp _ none _ 0 (Nat.lt_succ_self _) (by omega) ⟨⟨by rw [o_up_at]; rfl, fun ix r hr => by cases hr⟩, by rw [o_up_nj (Or.inr (by decide)), o_up_nj (Or.inr (by decide)), o_up_at]; rfl, by rw [o_up_nj (Or.inr (by decide)), o_up_at]; rfl, fun x hx => by rw [o_up_ne (by omega), o_up_ne (by omega), o_up_ne (by omega)]⟩
set_option maxRecDepth 20000 in
set_option maxHeartbeats 8000000 in
theorem c_X0_copyOne {T : oT} {σ : oM} {cC eC aC bx ix B2 : Nat} {rp : Int} (hc0 : T.2.1 cC = (0, 0)) (hcT : cC < T.1) (hE : oEd T eC) (hA : oEd T aC) (hd1 : eC + 13 ≤ cC ∨ cC < eC) (hd2 : aC + 13 ≤ cC ∨ cC < aC) (hd3 : eC + 13 ≤ aC ∨ aC + 13 ≤ eC) (hbx : 1 ≤ bx ∧ bx ≤ 99) (hi : ix < 4) (hrp : o_r rp) (hb2n : σ aC 2 = (B2 : Int)) (hb2 : B2 ≤ 99) (hob : o_r (σ (eC + 1) bx)) (hvb : o_r (σ (eC + 2) bx)) (hoa : ∀ jx, 1 ≤ jx → jx ≤ B2 → o_r (σ (aC + 1) jx)) (hva : ∀ jx, 1 ≤ jx → jx ≤ B2 → o_r (σ (aC + 2) jx)) (hfb : o_r (σ (eC + 6 + ix) bx)) (hbt : ∀ jx, 1 ≤ jx → jx ≤ B2 → o_r (σ (aC + 6 + ix) jx)) : MS yX0_copyOne cX0_copyOne 10 none 1 0 0 23 [og cC, og eC, oi ((bx : Nat) : Int), og aC, oi ((ix : Nat) : Int), oi rp] T σ (oPv (fun σ2 => σ2 = o_one σ cC (aC + 6 + ix) (σ (eC + 6 + ix) bx) (fstAt (σ (aC + 1)) (σ (eC + 1) bx) B2 1) (σ (eC + 2) bx ≠ σ (aC + 2) (fstAt (σ (aC + 1)) (σ (eC + 1) bx) B2 1)) rp) T) := by
  have hEc := hE
  obtain ⟨hE0, hE3, hE4, hE5, hE6, hE7, hE8, hE9, hE10, hA1, hA2, hA3, hA4, hA5, hRw, hA10, hA11, hA12, hTe⟩ := hEc
  have hAc := hA
  obtain ⟨hQ0, hQ3, hQ4, hQ5, hQ6, hQ7, hQ8, hQ9, hQ10, hQA1, hQA2, hQA3, hQA4, hQA5, hQw, hQA10, hQA11, hQA12, hQT⟩ := hAc
  refine o_met (by decide +kernel) (Nat.le_of_ble_eq_true rfl) (fun p l ee s m args below meth c G b C hr hn => ?_)
  have C : oCx p s m args meth c G b RX0 cX0_copyOne 10 := C
  show oW p l ee ({ frames := 1, cells := 0, slots := 0, locals := 23 } : Room) s m args below meth c G b 10 0 0 (MQ below (o_Qc G b (oPv (fun σ2 => σ2 = o_one σ cC (aC + 6 + ix) (σ (eC + 6 + ix) bx) (fstAt (σ (aC + 1)) (σ (eC + 1) bx) B2 1) (σ (eC + 2) bx ≠ σ (aC + 2) (fstAt (σ (aC + 1)) (σ (eC + 1) bx) B2 1)) rp) T)) args s 0 0 (fun q => b ≤ q)) T σ 0 [some (og cC), some (og eC), some (oi ((bx : Nat) : Int)), some (og aC), some (oi ((ix : Nat) : Int)), some (oi rp), none, none, none, none] []
  refine r_al3 (q := 1) C dX0_copyOne_0 rfl ?_
  refine r_al1 (q := 2) C dX0_copyOne_1 rfl ?_
  refine r_getR (q := 5) C f_X0_39 dX0_copyOne_2 rfl rfl (by assumption) (by assumption) (by omega) ?_
  refine r_il2 (q := 6) C dX0_copyOne_5 rfl ?_
  refine r_iald (q := 7) C (bx) dX0_copyOne_6 rfl (by assumption) (by omega) (by omega) (by omega) (by decide) ?_
  refine r_iconst (q := 8) C dX0_copyOne_7 rfl ?_
  refine r_callV1 (q := 11) C (c_X4_barWith (eC := aC) (Bn := B2) (fx := 1) (vx := σ (eC + 1) bx) hA hb2n hb2 (by omega) hob hoa) m_X0_43 (by assumption) (by omega) dX0_copyOne_8 rfl rfl (by decide) (by decide) (Nat.le_of_ble_eq_true rfl) ?_
  rw [show B2 + 1 - 1 = B2 by omega]
  have hsp := fstAt_spec (f := σ (aC + 1)) (v := σ (eC + 1) bx) (n := B2) (j := 1) (by omega)
  obtain ⟨thx, hthx⟩ : ∃ y, y = fstAt (σ (aC + 1)) (σ (eC + 1) bx) B2 1 := ⟨_, rfl⟩
  rw [← hthx] at hsp ⊢
  refine r_is6 (q := 13) C dX0_copyOne_11 rfl (by decide) ?_
  refine r_il6 (q := 15) C dX0_copyOne_13 rfl ?_
  refine r_ifne (q := 29) (q2 := 18) C (by omega) dX0_copyOne_15 (by decide) rfl (fun br15 => ?_) (fun br15 => ?_)
  · have hth : 1 ≤ thx ∧ thx ≤ B2 := by
      rcases hsp with ⟨hc, -⟩ | ⟨a1, a2, -, -⟩
      · exact absurd hc (by omega)
      · exact ⟨a1, by omega⟩
    have hRi := (hRw ix (by omega)).2
    have hQi := (hQw ix (by omega)).2
    have hbt2 := hbt thx hth.1 hth.2
    refine r_al1 (q := 30) C dX0_copyOne_29 rfl ?_
    refine r_getR (q := 33) C f_X0_31 dX0_copyOne_30 rfl rfl (by assumption) (by assumption) (by omega) ?_
    refine r_il4 (q := 35) C dX0_copyOne_33 rfl ?_
    refine r_aald (q := 36) C (ix) dX0_copyOne_35 rfl (by assumption) (by omega) (by omega) (by omega) (by decide) (hRw ix (by omega)).1 rfl rfl (by decide) (by decide) ?_
    refine r_il2 (q := 37) C dX0_copyOne_36 rfl ?_
    refine r_iald (q := 38) C (bx) dX0_copyOne_37 rfl (by assumption) (by omega) (by omega) (by omega) (by decide) ?_
    refine r_is7 (q := 40) C dX0_copyOne_38 rfl (by decide) ?_
    refine r_al3 (q := 41) C dX0_copyOne_40 rfl ?_
    refine r_getR (q := 44) C f_X0_31 dX0_copyOne_41 rfl rfl (by assumption) (by assumption) (by omega) ?_
    refine r_il4 (q := 46) C dX0_copyOne_44 rfl ?_
    refine r_aald (q := 47) C (ix) dX0_copyOne_46 rfl (by assumption) (by omega) (by omega) (by omega) (by decide) (hQw ix (by omega)).1 rfl rfl (by decide) (by decide) ?_
    refine r_il6 (q := 49) C dX0_copyOne_47 rfl ?_
    refine r_iald (q := 50) C (thx) dX0_copyOne_49 rfl (by assumption) (by omega) (by omega) (by omega) (by decide) ?_
    refine r_is8 (q := 52) C dX0_copyOne_50 rfl (by decide) ?_
    refine r_il8 (q := 54) C dX0_copyOne_52 rfl ?_
    refine r_il7 (q := 56) C dX0_copyOne_54 rfl ?_
    refine r_icne (q := 60) (q2 := 59) C (by omega) (by omega) dX0_copyOne_56 (by decide) rfl (fun br56 => ?_) (fun br56 => ?_)
    · refine r_il8 (q := 62) C dX0_copyOne_60 rfl ?_
      refine r_ifeq (q := 69) (q2 := 65) C (by omega) dX0_copyOne_62 (by decide) rfl (fun br62 => ?_) (fun br62 => ?_)
      · refine r_iconst (q := 70) C dX0_copyOne_69 rfl ?_
        refine r_is9 (q := 72) C dX0_copyOne_70 rfl (by decide) ?_
        refine r_al0 (q := 73) C dX0_copyOne_72 rfl ?_
        refine r_dup (q := 74) C dX0_copyOne_73 rfl ?_
        refine r_getI (q := 77) C f_X0_20 dX0_copyOne_74 rfl rfl (by assumption) (by omega) ?_
        refine r_il9 (q := 79) C dX0_copyOne_77 rfl ?_
        refine r_ifeq_t (q := 86) C (by decide) (by omega) dX0_copyOne_79 (by decide) ?_
        refine r_iconst (q := 87) C dX0_copyOne_86 rfl ?_
        refine r_iadd (q := 88) C dX0_copyOne_87 rfl ?_
        refine r_putI (q := 91) C fp_X0_20 dX0_copyOne_88 rfl rfl (by assumption) (by omega) ?_
        refine r_il9 (q := 93) C dX0_copyOne_91 rfl ?_
        refine r_ifeq_t (q := 102) C (by decide) (by omega) dX0_copyOne_93 (by decide) ?_
        refine r_al3 (q := 103) C dX0_copyOne_102 rfl ?_
        refine r_getR (q := 106) C f_X0_31 dX0_copyOne_103 rfl rfl (by assumption) (by assumption) (by omega) ?_
        refine r_il4 (q := 108) C dX0_copyOne_106 rfl ?_
        refine r_aald (q := 109) C (ix) dX0_copyOne_108 rfl (by assumption) (by omega) (by omega) (by omega) (by decide) (hQw ix (by omega)).1 rfl rfl (by decide) (by decide) ?_
        refine r_il6 (q := 111) C dX0_copyOne_109 rfl ?_
        refine r_il7 (q := 113) C dX0_copyOne_111 rfl ?_
        refine r_iast (q := 114) C (thx) dX0_copyOne_113 rfl (by assumption) (by omega) (by omega) (by omega) (by decide) ?_
        refine r_al0 (q := 115) C dX0_copyOne_114 rfl ?_
        refine r_dup (q := 116) C dX0_copyOne_115 rfl ?_
        refine r_getI (q := 119) C f_X0_13 dX0_copyOne_116 rfl rfl (by assumption) (by omega) ?_
        rw [show (o_up (o_up σ cC 3 (σ cC 3 + 0)) (aC + 6 + ix) thx (σ (eC + 6 + ix) bx)) cC 1 = σ cC 1 by rw [o_up_ne (by omega), o_up_nj (Or.inr (by decide))]]
        refine r_iconst (q := 120) C dX0_copyOne_119 rfl ?_
        refine r_iadd (q := 121) C dX0_copyOne_120 rfl ?_
        refine r_putI (q := 124) C fp_X0_13 dX0_copyOne_121 rfl rfl (by assumption) (by omega) ?_
        refine r_al0 (q := 125) C dX0_copyOne_124 rfl ?_
        refine r_dup (q := 126) C dX0_copyOne_125 rfl ?_
        refine r_getI (q := 129) C f_X0_23 dX0_copyOne_126 rfl rfl (by assumption) (by omega) ?_
        rw [show (o_up (o_up (o_up σ cC 3 (σ cC 3 + 0)) (aC + 6 + ix) thx (σ (eC + 6 + ix) bx)) cC 1 (σ cC 1 + 1)) cC 4 = σ cC 4 by rw [o_up_nj (Or.inr (by decide)), o_up_ne (by omega), o_up_nj (Or.inr (by decide))]]
        refine r_al1 (q := 130) C dX0_copyOne_129 rfl ?_
        refine r_getR (q := 133) C f_X0_47 dX0_copyOne_130 rfl rfl (by assumption) (by assumption) (by omega) ?_
        refine r_il2 (q := 134) C dX0_copyOne_133 rfl ?_
        refine r_iald (q := 135) C (bx) dX0_copyOne_134 rfl (by assumption) (by omega) (by omega) (by omega) (by decide) ?_
        refine r_al3 (q := 136) C dX0_copyOne_135 rfl ?_
        refine r_getR (q := 139) C f_X0_47 dX0_copyOne_136 rfl rfl (by assumption) (by assumption) (by omega) ?_
        refine r_il6 (q := 141) C dX0_copyOne_139 rfl ?_
        refine r_iald (q := 142) C (thx) dX0_copyOne_141 rfl (by assumption) (by omega) (by omega) (by omega) (by decide) ?_
        rw [show (o_up (o_up (o_up σ cC 3 (σ cC 3 + 0)) (aC + 6 + ix) thx (σ (eC + 6 + ix) bx)) cC 1 (σ cC 1 + 1)) (eC + 2) bx = σ (eC + 2) bx by rw [o_up_ne (by omega), o_up_ne (by omega), o_up_ne (by omega)], show (o_up (o_up (o_up σ cC 3 (σ cC 3 + 0)) (aC + 6 + ix) thx (σ (eC + 6 + ix) bx)) cC 1 (σ cC 1 + 1)) (aC + 2) thx = σ (aC + 2) thx by rw [o_up_ne (by omega), o_up_ne (by omega), o_up_ne (by omega)]]
        refine r_iceq (q := 149) (q2 := 145) C hvb (hva _ hth.1 hth.2) dX0_copyOne_142 (by decide) rfl (fun br142 => ?_) (fun br142 => ?_)
        · refine r_iconst (q := 150) C dX0_copyOne_149 rfl ?_
          refine r_iadd (q := 151) C dX0_copyOne_150 rfl ?_
          refine r_putI (q := 154) C fp_X0_23 dX0_copyOne_151 rfl rfl (by assumption) (by omega) ?_
          refine r_vret C hr dX0_copyOne_154 (by decide) (by decide) ?_
          refine ⟨rfl, rfl, ?_⟩
          rw [o_one, if_neg (by omega), if_neg br56, if_neg (fun hc => hc.1 br62), if_neg (fun hc => hc br62), if_neg (fun hc => hc br142)]
        · refine r_iconst (q := 146) C dX0_copyOne_145 rfl ?_
          refine r_goto (q := 150) C dX0_copyOne_146 (by decide) ?_
          refine r_iadd (q := 151) C dX0_copyOne_150 rfl ?_
          refine r_putI (q := 154) C fp_X0_23 dX0_copyOne_151 rfl rfl (by assumption) (by omega) ?_
          refine r_vret C hr dX0_copyOne_154 (by decide) (by decide) ?_
          refine ⟨rfl, rfl, ?_⟩
          rw [o_one, if_neg (by omega), if_neg br56, if_neg (fun hc => hc.1 br62), if_neg (fun hc => hc br62), if_pos br142]
      · refine r_iconst (q := 66) C dX0_copyOne_65 rfl ?_
        refine r_goto (q := 70) C dX0_copyOne_66 (by decide) ?_
        refine r_is9 (q := 72) C dX0_copyOne_70 rfl (by decide) ?_
        refine r_al0 (q := 73) C dX0_copyOne_72 rfl ?_
        refine r_dup (q := 74) C dX0_copyOne_73 rfl ?_
        refine r_getI (q := 77) C f_X0_20 dX0_copyOne_74 rfl rfl (by assumption) (by omega) ?_
        refine r_il9 (q := 79) C dX0_copyOne_77 rfl ?_
        refine r_ifeq_f (q := 86) (q2 := 82) C (by decide) (by omega) dX0_copyOne_79 (by decide) rfl ?_
        refine r_iconst (q := 83) C dX0_copyOne_82 rfl ?_
        refine r_goto (q := 87) C dX0_copyOne_83 (by decide) ?_
        refine r_iadd (q := 88) C dX0_copyOne_87 rfl ?_
        refine r_putI (q := 91) C fp_X0_20 dX0_copyOne_88 rfl rfl (by assumption) (by omega) ?_
        refine r_il9 (q := 93) C dX0_copyOne_91 rfl ?_
        refine r_ifeq_f (q := 102) (q2 := 96) C (by decide) (by omega) dX0_copyOne_93 (by decide) rfl ?_
        refine r_il5 (q := 98) C dX0_copyOne_96 rfl ?_
        refine r_ifne (q := 102) (q2 := 101) C (by omega) dX0_copyOne_98 (by decide) rfl (fun br98 => ?_) (fun br98 => ?_)
        · refine r_al3 (q := 103) C dX0_copyOne_102 rfl ?_
          refine r_getR (q := 106) C f_X0_31 dX0_copyOne_103 rfl rfl (by assumption) (by assumption) (by omega) ?_
          refine r_il4 (q := 108) C dX0_copyOne_106 rfl ?_
          refine r_aald (q := 109) C (ix) dX0_copyOne_108 rfl (by assumption) (by omega) (by omega) (by omega) (by decide) (hQw ix (by omega)).1 rfl rfl (by decide) (by decide) ?_
          refine r_il6 (q := 111) C dX0_copyOne_109 rfl ?_
          refine r_il7 (q := 113) C dX0_copyOne_111 rfl ?_
          refine r_iast (q := 114) C (thx) dX0_copyOne_113 rfl (by assumption) (by omega) (by omega) (by omega) (by decide) ?_
          refine r_al0 (q := 115) C dX0_copyOne_114 rfl ?_
          refine r_dup (q := 116) C dX0_copyOne_115 rfl ?_
          refine r_getI (q := 119) C f_X0_13 dX0_copyOne_116 rfl rfl (by assumption) (by omega) ?_
          rw [show (o_up (o_up σ cC 3 (σ cC 3 + 1)) (aC + 6 + ix) thx (σ (eC + 6 + ix) bx)) cC 1 = σ cC 1 by rw [o_up_ne (by omega), o_up_nj (Or.inr (by decide))]]
          refine r_iconst (q := 120) C dX0_copyOne_119 rfl ?_
          refine r_iadd (q := 121) C dX0_copyOne_120 rfl ?_
          refine r_putI (q := 124) C fp_X0_13 dX0_copyOne_121 rfl rfl (by assumption) (by omega) ?_
          refine r_al0 (q := 125) C dX0_copyOne_124 rfl ?_
          refine r_dup (q := 126) C dX0_copyOne_125 rfl ?_
          refine r_getI (q := 129) C f_X0_23 dX0_copyOne_126 rfl rfl (by assumption) (by omega) ?_
          rw [show (o_up (o_up (o_up σ cC 3 (σ cC 3 + 1)) (aC + 6 + ix) thx (σ (eC + 6 + ix) bx)) cC 1 (σ cC 1 + 1)) cC 4 = σ cC 4 by rw [o_up_nj (Or.inr (by decide)), o_up_ne (by omega), o_up_nj (Or.inr (by decide))]]
          refine r_al1 (q := 130) C dX0_copyOne_129 rfl ?_
          refine r_getR (q := 133) C f_X0_47 dX0_copyOne_130 rfl rfl (by assumption) (by assumption) (by omega) ?_
          refine r_il2 (q := 134) C dX0_copyOne_133 rfl ?_
          refine r_iald (q := 135) C (bx) dX0_copyOne_134 rfl (by assumption) (by omega) (by omega) (by omega) (by decide) ?_
          refine r_al3 (q := 136) C dX0_copyOne_135 rfl ?_
          refine r_getR (q := 139) C f_X0_47 dX0_copyOne_136 rfl rfl (by assumption) (by assumption) (by omega) ?_
          refine r_il6 (q := 141) C dX0_copyOne_139 rfl ?_
          refine r_iald (q := 142) C (thx) dX0_copyOne_141 rfl (by assumption) (by omega) (by omega) (by omega) (by decide) ?_
          rw [show (o_up (o_up (o_up σ cC 3 (σ cC 3 + 1)) (aC + 6 + ix) thx (σ (eC + 6 + ix) bx)) cC 1 (σ cC 1 + 1)) (eC + 2) bx = σ (eC + 2) bx by rw [o_up_ne (by omega), o_up_ne (by omega), o_up_ne (by omega)], show (o_up (o_up (o_up σ cC 3 (σ cC 3 + 1)) (aC + 6 + ix) thx (σ (eC + 6 + ix) bx)) cC 1 (σ cC 1 + 1)) (aC + 2) thx = σ (aC + 2) thx by rw [o_up_ne (by omega), o_up_ne (by omega), o_up_ne (by omega)]]
          refine r_iceq (q := 149) (q2 := 145) C hvb (hva _ hth.1 hth.2) dX0_copyOne_142 (by decide) rfl (fun br142 => ?_) (fun br142 => ?_)
          · refine r_iconst (q := 150) C dX0_copyOne_149 rfl ?_
            refine r_iadd (q := 151) C dX0_copyOne_150 rfl ?_
            refine r_putI (q := 154) C fp_X0_23 dX0_copyOne_151 rfl rfl (by assumption) (by omega) ?_
            refine r_vret C hr dX0_copyOne_154 (by decide) (by decide) ?_
            refine ⟨rfl, rfl, ?_⟩
            rw [o_one, if_neg (by omega), if_neg br56, if_neg (fun hc => br98 hc.2), if_pos br62, if_neg (fun hc => hc br142)]
          · refine r_iconst (q := 146) C dX0_copyOne_145 rfl ?_
            refine r_goto (q := 150) C dX0_copyOne_146 (by decide) ?_
            refine r_iadd (q := 151) C dX0_copyOne_150 rfl ?_
            refine r_putI (q := 154) C fp_X0_23 dX0_copyOne_151 rfl rfl (by assumption) (by omega) ?_
            refine r_vret C hr dX0_copyOne_154 (by decide) (by decide) ?_
            refine ⟨rfl, rfl, ?_⟩
            rw [o_one, if_neg (by omega), if_neg br56, if_neg (fun hc => br98 hc.2), if_pos br62, if_pos br142]
        · refine r_vret C hr dX0_copyOne_101 (by decide) (by decide) ?_
          refine ⟨rfl, rfl, ?_⟩
          rw [o_one, if_neg (by omega), if_neg br56, if_pos ⟨br62, br98⟩]
    · refine r_vret C hr dX0_copyOne_59 (by decide) (by decide) ?_
      refine ⟨rfl, rfl, ?_⟩
      rw [o_one, if_neg (by omega), if_pos br56]
  · refine r_al0 (q := 19) C dX0_copyOne_18 rfl ?_
    refine r_dup (q := 20) C dX0_copyOne_19 rfl ?_
    refine r_getI (q := 23) C f_X0_17 dX0_copyOne_20 rfl rfl (by assumption) (by omega) ?_
    refine r_iconst (q := 24) C dX0_copyOne_23 rfl ?_
    refine r_iadd (q := 25) C dX0_copyOne_24 rfl ?_
    refine r_putI (q := 28) C fp_X0_17 dX0_copyOne_25 rfl rfl (by assumption) (by omega) ?_
    refine r_vret C hr dX0_copyOne_28 (by decide) (by decide) ?_
    refine ⟨rfl, rfl, ?_⟩
    rw [o_one, if_pos (by omega)]
set_option maxRecDepth 20000 in
set_option maxHeartbeats 8000000 in
theorem c_X0_copyRow {T : oT} {σ : oM} {cC eC aC ix B1 B2 : Nat} {rp : Int} (hc0 : T.2.1 cC = (0, 0)) (hcT : cC < T.1) (hE : oEd T eC) (hA : oEd T aC) (hd1 : eC + 13 ≤ cC ∨ cC < eC) (hd2 : aC + 13 ≤ cC ∨ cC < aC) (hd3 : eC + 13 ≤ aC ∨ aC + 13 ≤ eC) (hi : ix < 4) (hrp : o_r rp) (hb1 : σ eC 2 = (B1 : Int)) (hb19 : B1 ≤ 99) (hb2n : σ aC 2 = (B2 : Int)) (hb2 : B2 ≤ 99) (hoe : ∀ jx, 1 ≤ jx → jx ≤ B1 → o_r (σ (eC + 1) jx)) (hve : ∀ jx, 1 ≤ jx → jx ≤ B1 → o_r (σ (eC + 2) jx)) (hoa : ∀ jx, 1 ≤ jx → jx ≤ B2 → o_r (σ (aC + 1) jx)) (hva : ∀ jx, 1 ≤ jx → jx ≤ B2 → o_r (σ (aC + 2) jx)) (hfb : ∀ jx, 1 ≤ jx → jx ≤ B1 → 0 ≤ σ (eC + 6 + ix) jx ∧ σ (eC + 6 + ix) jx ≤ 4) (hbt : ∀ jx, 1 ≤ jx → jx ≤ B2 → 0 ≤ σ (aC + 6 + ix) jx ∧ σ (aC + 6 + ix) jx ≤ 4) : MS yX0_copyRow cX0_copyRow 6 none 2 0 0 52 [og cC, og eC, og aC, oi ((ix : Nat) : Int), oi rp] T σ (oPv (fun σ2 => σ2 = o_cpr σ cC (aC + 6 + ix) (cpS (σ (eC + 6 + ix)) (σ (eC + 1)) (σ (eC + 2)) (σ (aC + 1)) (σ (aC + 2)) B2 rp (σ (aC + 6 + ix)) B1)) T) := by
  have hEc := hE
  obtain ⟨hE0, hE3, hE4, hE5, hE6, hE7, hE8, hE9, hE10, hA1, hA2, hA3, hA4, hA5, hRw, hA10, hA11, hA12, hTe⟩ := hEc
  have hAc := hA
  obtain ⟨hQ0, hQ3, hQ4, hQ5, hQ6, hQ7, hQ8, hQ9, hQ10, hQA1, hQA2, hQA3, hQA4, hQA5, hQw, hQA10, hQA11, hQA12, hQT⟩ := hAc
  have hfbr : ∀ jx, 1 ≤ jx → jx ≤ B1 → o_r (σ (eC + 6 + ix) jx) := fun jx j1 j2 => by have := hfb jx j1 j2; omega
  refine o_met (by decide +kernel) (Nat.le_of_ble_eq_true rfl) (fun p l ee s m args below meth c G b C hr hn => ?_)
  have C : oCx p s m args meth c G b RX0 cX0_copyRow 6 := C
  show oW p l ee ({ frames := 2, cells := 0, slots := 0, locals := 52 } : Room) s m args below meth c G b 6 0 0 (MQ below (o_Qc G b (oPv (fun σ2 => σ2 = o_cpr σ cC (aC + 6 + ix) (cpS (σ (eC + 6 + ix)) (σ (eC + 1)) (σ (eC + 2)) (σ (aC + 1)) (σ (aC + 2)) B2 rp (σ (aC + 6 + ix)) B1)) T)) args s 0 0 (fun q => b ≤ q)) T σ 0 [some (og cC), some (og eC), some (og aC), some (oi ((ix : Nat) : Int)), some (oi rp), none] []
  have lp : ∀ (n : Nat) (jx : Nat), B1 - jx < n → (jx ≤ B1) → oW p l ee ({ frames := 2, cells := 0, slots := 0, locals := 52 } : Room) s m args below meth c G b 6 0 0 (MQ below (o_Qc G b (oPv (fun σ2 => σ2 = o_cpr σ cC (aC + 6 + ix) (cpS (σ (eC + 6 + ix)) (σ (eC + 1)) (σ (eC + 2)) (σ (aC + 1)) (σ (aC + 2)) B2 rp (σ (aC + 6 + ix)) B1)) T)) args s 0 0 (fun q => b ≤ q)) T (o_cpr σ cC (aC + 6 + ix) (cpS (σ (eC + 6 + ix)) (σ (eC + 1)) (σ (eC + 2)) (σ (aC + 1)) (σ (aC + 2)) B2 rp (σ (aC + 6 + ix)) jx)) 28 [some (og cC), some (og eC), some (og aC), some (oi ((ix : Nat) : Int)), some (oi rp), some (oi ((jx + 1 : Nat) : Int))] [] := by
    intro n
    induction n with
    | zero =>
      intro jx hms
      exact absurd hms (Nat.not_lt_zero _)
    | succ n ih =>
      intro jx hms h1
      have hin := cpS_in (fb := σ (eC + 6 + ix)) (o1 := σ (eC + 1)) (v1 := σ (eC + 2)) (o2 := σ (aC + 1)) (v2 := σ (aC + 2)) (rp := rp) hbt jx (fun j j1 j2 => hfb j j1 (by omega))
      have hrow := o_cpr_row (σ := σ) (cC := cC) (rw_ := (aC + 6 + ix)) (sx := (cpS (σ (eC + 6 + ix)) (σ (eC + 1)) (σ (eC + 2)) (σ (aC + 1)) (σ (aC + 2)) B2 rp (σ (aC + 6 + ix)) jx)) (by omega)
      have hfr : ∀ x, x ≠ cC → x ≠ (aC + 6 + ix) → (o_cpr σ cC (aC + 6 + ix) (cpS (σ (eC + 6 + ix)) (σ (eC + 1)) (σ (eC + 2)) (σ (aC + 1)) (σ (aC + 2)) B2 rp (σ (aC + 6 + ix)) jx)) x = σ x := fun x q1 q2 => o_cpr_ne q1 q2
      refine r_il5 (q := 30) C dX0_copyRow_28 rfl ?_
      refine r_al1 (q := 31) C dX0_copyRow_30 rfl ?_
      refine r_getI (q := 34) C f_X0_26 dX0_copyRow_31 rfl rfl (by assumption) (by omega) ?_
      rw [show (o_cpr σ cC (aC + 6 + ix) (cpS (σ (eC + 6 + ix)) (σ (eC + 1)) (σ (eC + 2)) (σ (aC + 1)) (σ (aC + 2)) B2 rp (σ (aC + 6 + ix)) jx)) eC 2 = (B1 : Int) by rw [hfr eC (by omega) (by omega)]; exact hb1]
      refine r_icgt (q := 66) (q2 := 37) C (by omega) (by omega) dX0_copyRow_34 (by decide) rfl (fun br34 => ?_) (fun br34 => ?_)
      · exact r_vret C hr dX0_copyRow_66 (by decide) (by decide) ⟨rfl, rfl, by rw [show jx = B1 by omega]⟩
      · refine r_al1 (q := 38) C dX0_copyRow_37 rfl ?_
        refine r_getR (q := 41) C f_X0_31 dX0_copyRow_38 rfl rfl (by assumption) (by assumption) (by omega) ?_
        refine r_il3 (q := 42) C dX0_copyRow_41 rfl ?_
        refine r_aald (q := 43) C (ix) dX0_copyRow_42 rfl (by assumption) (by omega) (by omega) (by omega) (by decide) (hRw ix (by omega)).1 rfl rfl (by decide) (by decide) ?_
        have hRi := (hRw ix (by omega)).2
        refine r_il5 (q := 45) C dX0_copyRow_43 rfl ?_
        refine r_iald (q := 46) C (jx + 1) dX0_copyRow_45 rfl (by assumption) (by omega) (by omega) (by omega) (by decide) ?_
        rw [show (o_cpr σ cC (aC + 6 + ix) (cpS (σ (eC + 6 + ix)) (σ (eC + 1)) (σ (eC + 2)) (σ (aC + 1)) (σ (aC + 2)) B2 rp (σ (aC + 6 + ix)) jx)) (eC + 6 + ix) (jx + 1) = σ (eC + 6 + ix) (jx + 1) from congrFun (hfr _ (by omega) (by omega)) _]
        refine r_ifeq (q := 60) (q2 := 49) C (hfbr (jx + 1) (by omega) (by omega)) dX0_copyRow_46 (by decide) rfl (fun br46 => ?_) (fun br46 => ?_)
        · refine r_iinc5 (q := 63) C dX0_copyRow_60 rfl (by decide) ?_
          refine r_goto (q := 28) C dX0_copyRow_63 (by decide) ?_
          have hk := ih (jx + 1) (by omega) (by omega)
          rw [cpS, if_pos br46] at hk
          exact hk
        · refine r_al0 (q := 50) C dX0_copyRow_49 rfl ?_
          refine r_al1 (q := 51) C dX0_copyRow_50 rfl ?_
          refine r_il5 (q := 53) C dX0_copyRow_51 rfl ?_
          refine r_al2 (q := 54) C dX0_copyRow_53 rfl ?_
          refine r_il3 (q := 55) C dX0_copyRow_54 rfl ?_
          refine r_il4 (q := 57) C dX0_copyRow_55 rfl ?_
          refine r_callVv (q := 60) C (c_X0_copyOne (bx := jx + 1) hc0 hcT hE hA hd1 hd2 hd3 (by omega) hi hrp (by rw [hfr aC (by omega) (by omega)]; exact hb2n) hb2 (by rw [hfr _ (by omega) (by omega)]; exact hoe _ (by omega) (by omega)) (by rw [hfr _ (by omega) (by omega)]; exact hve _ (by omega) (by omega)) (by rw [hfr (aC + 1) (by omega) (by omega)]; exact hoa) (by rw [hfr (aC + 2) (by omega) (by omega)]; exact hva) (by rw [hfr (eC + 6 + ix) (by omega) (by omega)]; exact hfbr _ (by omega) (by omega)) (by rw [hrow]; exact fun j j1 j2 => by have := hin j j1 j2; omega)) m_X0_35 (by assumption) (by omega) dX0_copyRow_57 rfl rfl (by decide) (by decide) (Nat.le_of_ble_eq_true rfl) (fun σ2 hσ2 => ?_)
          rw [o_one_s (by omega), hfr (eC + 6 + ix) (by omega) (by omega), hfr (aC + 1) (by omega) (by omega), hfr (eC + 1) (by omega) (by omega), hfr (eC + 2) (by omega) (by omega), hfr (aC + 2) (by omega) (by omega)] at hσ2
          subst hσ2
          refine r_iinc5 (q := 63) C dX0_copyRow_60 rfl (by decide) ?_
          refine r_goto (q := 28) C dX0_copyRow_63 (by decide) ?_
          have hk := ih (jx + 1) (by omega) (by omega)
          rw [cpS, if_neg br46] at hk
          exact hk
  refine r_al0 (q := 1) C dX0_copyRow_0 rfl ?_
  refine r_iconst (q := 2) C dX0_copyRow_1 rfl ?_
  refine r_putZ (q := 5) C fp_X0_7 dX0_copyRow_2 rfl rfl (by decide) (by assumption) (by omega) ?_
  refine r_al0 (q := 6) C dX0_copyRow_5 rfl ?_
  refine r_iconst (q := 7) C dX0_copyRow_6 rfl ?_
  refine r_putI (q := 10) C fp_X0_13 dX0_copyRow_7 rfl rfl (by assumption) (by omega) ?_
  refine r_al0 (q := 11) C dX0_copyRow_10 rfl ?_
  refine r_iconst (q := 12) C dX0_copyRow_11 rfl ?_
  refine r_putI (q := 15) C fp_X0_17 dX0_copyRow_12 rfl rfl (by assumption) (by omega) ?_
  refine r_al0 (q := 16) C dX0_copyRow_15 rfl ?_
  refine r_iconst (q := 17) C dX0_copyRow_16 rfl ?_
  refine r_putI (q := 20) C fp_X0_20 dX0_copyRow_17 rfl rfl (by assumption) (by omega) ?_
  refine r_al0 (q := 21) C dX0_copyRow_20 rfl ?_
  refine r_iconst (q := 22) C dX0_copyRow_21 rfl ?_
  refine r_putI (q := 25) C fp_X0_23 dX0_copyRow_22 rfl rfl (by assumption) (by omega) ?_
  refine r_iconst (q := 26) C dX0_copyRow_25 rfl ?_
  refine r_is5 (q := 28) C dX0_copyRow_26 rfl (by decide) ?_
  rw [o_cpr_0 (rw_ := (aC + 6 + ix)) (by omega)]
  exact lp _ 0 (Nat.lt_succ_self _) (by omega)
set_option maxRecDepth 20000 in
set_option maxHeartbeats 8000000 in
theorem c_X1_makeAnew {T : oT} {σ : oM} {aC : Nat} {sx px : Int} (hBx : oBx T aC) : MS yX1_makeAnew cX1_makeAnew 4 none 0 0 0 0 [og aC, oi sx, oi px] T σ (oPv (fun σ2 => σ2 = o_emp (o_up (o_up σ aC 0 sx) aC 1 px) aC 8) T) := by
  have hBc := hBx
  obtain ⟨hB0, hB2, hB3, hBA1, hBA2, hBT⟩ := hBc
  refine o_met (by decide +kernel) (Nat.le_of_ble_eq_true rfl) (fun p l ee s m args below meth c G b C hr hn => ?_)
  have C : oCx p s m args meth c G b RX1 cX1_makeAnew 4 := C
  show oW p l ee ({ frames := 0, cells := 0, slots := 0, locals := 0 } : Room) s m args below meth c G b 4 0 0 (MQ below (o_Qc G b (oPv (fun σ2 => σ2 = o_emp (o_up (o_up σ aC 0 sx) aC 1 px) aC 8) T)) args s 0 0 (fun q => b ≤ q)) T σ 0 [some (og aC), some (oi sx), some (oi px), none] []
  have lp : ∀ (n : Nat) (jx : Nat), 8 - jx < n → (jx ≤ 8) → oW p l ee ({ frames := 0, cells := 0, slots := 0, locals := 0 } : Room) s m args below meth c G b 4 0 0 (MQ below (o_Qc G b (oPv (fun σ2 => σ2 = o_emp (o_up (o_up σ aC 0 sx) aC 1 px) aC 8) T)) args s 0 0 (fun q => b ≤ q)) T (o_emp (o_up (o_up σ aC 0 sx) aC 1 px) aC jx) 12 [some (og aC), some (oi sx), some (oi px), some (oi ((jx : Nat) : Int))] [] := by
    intro n
    induction n with
    | zero =>
      intro jx hms
      exact absurd hms (Nat.not_lt_zero _)
    | succ n ih =>
      intro jx hms h1
      refine r_il3 (q := 13) C dX1_makeAnew_12 rfl ?_
      refine r_bipush (q := 15) C dX1_makeAnew_13 (by decide) rfl ?_
      refine r_icge (q := 31) (q2 := 18) C (by omega) (by omega) dX1_makeAnew_15 (by decide) rfl (fun br15 => ?_) (fun br15 => ?_)
      · exact r_vret C hr dX1_makeAnew_31 (by decide) (by decide) ⟨rfl, rfl, by rw [show jx = 8 by omega]⟩
      · refine r_al0 (q := 19) C dX1_makeAnew_18 rfl ?_
        refine r_getR (q := 22) C f_X1_9 dX1_makeAnew_19 rfl rfl (by assumption) (by assumption) (by omega) ?_
        refine r_il3 (q := 23) C dX1_makeAnew_22 rfl ?_
        refine r_iconst (q := 24) C dX1_makeAnew_23 rfl ?_
        refine r_iast (q := 25) C (jx) dX1_makeAnew_24 rfl (by assumption) (by omega) (by omega) (by omega) (by decide) ?_
        refine r_iinc3 (q := 28) C dX1_makeAnew_25 rfl (by decide) ?_
        refine r_goto (q := 12) C dX1_makeAnew_28 (by decide) ?_
        rw [o_emp_s]
        exact ih (jx + 1) (by omega) (by omega)
  refine r_al0 (q := 1) C dX1_makeAnew_0 rfl ?_
  refine r_il1 (q := 2) C dX1_makeAnew_1 rfl ?_
  refine r_putI (q := 5) C fp_X1_18 dX1_makeAnew_2 rfl rfl (by assumption) (by omega) ?_
  refine r_al0 (q := 6) C dX1_makeAnew_5 rfl ?_
  refine r_il2 (q := 7) C dX1_makeAnew_6 rfl ?_
  refine r_putI (q := 10) C fp_X1_22 dX1_makeAnew_7 rfl rfl (by assumption) (by omega) ?_
  refine r_iconst (q := 11) C dX1_makeAnew_10 rfl ?_
  refine r_is3 (q := 12) C dX1_makeAnew_11 rfl (by decide) ?_
  have h0 := lp _ 0 (Nat.lt_succ_self _) (by omega)
  rw [o_emp_0] at h0
  exact h0
set_option maxRecDepth 20000 in
set_option maxHeartbeats 8000000 in
theorem c_X1_becomeLike {T : oT} {σ : oM} {aC lC : Nat} (hBx : oBx T aC) (hLx : oBx T lC) : MS yX1_becomeLike cX1_becomeLike 2 none 1 0 0 30 [og aC, og lC] T σ (oPv (fun σ2 => σ2 = o_cp (o_cp (o_up (o_up σ aC 0 (σ lC 0)) aC 1 (σ lC 1)) (lC + 1) 0 (aC + 1) 0 8) (lC + 2) 0 (aC + 2) 0 8) T) := by
  have hBc := hBx
  obtain ⟨hB0, hB2, hB3, hBA1, hBA2, hBT⟩ := hBc
  have hLc := hLx
  obtain ⟨hC0, hC2, hC3, hCA1, hCA2, hCT⟩ := hLc
  refine o_met (by decide +kernel) (Nat.le_of_ble_eq_true rfl) (fun p l ee s m args below meth c G b C hr hn => ?_)
  have C : oCx p s m args meth c G b RX1 cX1_becomeLike 2 := C
  show oW p l ee ({ frames := 1, cells := 0, slots := 0, locals := 30 } : Room) s m args below meth c G b 2 0 0 (MQ below (o_Qc G b (oPv (fun σ2 => σ2 = o_cp (o_cp (o_up (o_up σ aC 0 (σ lC 0)) aC 1 (σ lC 1)) (lC + 1) 0 (aC + 1) 0 8) (lC + 2) 0 (aC + 2) 0 8) T)) args s 0 0 (fun q => b ≤ q)) T σ 0 [some (og aC), some (og lC)] []
  refine r_al0 (q := 1) C dX1_becomeLike_0 rfl ?_
  refine r_al1 (q := 2) C dX1_becomeLike_1 rfl ?_
  refine r_getI (q := 5) C f_X1_18 dX1_becomeLike_2 rfl rfl (by assumption) (by omega) ?_
  refine r_putI (q := 8) C fp_X1_18 dX1_becomeLike_5 rfl rfl (by assumption) (by omega) ?_
  refine r_al0 (q := 9) C dX1_becomeLike_8 rfl ?_
  refine r_al1 (q := 10) C dX1_becomeLike_9 rfl ?_
  refine r_getI (q := 13) C f_X1_22 dX1_becomeLike_10 rfl rfl (by assumption) (by omega) ?_
  rw [show o_up σ aC 0 (σ lC 0) lC 1 = σ lC 1 from o_up_nj (Or.inr (by decide))]
  refine r_putI (q := 16) C fp_X1_22 dX1_becomeLike_13 rfl rfl (by assumption) (by omega) ?_
  refine r_al1 (q := 17) C dX1_becomeLike_16 rfl ?_
  refine r_getR (q := 20) C f_X1_9 dX1_becomeLike_17 rfl rfl (by assumption) (by assumption) (by omega) ?_
  refine r_iconst (q := 21) C dX1_becomeLike_20 rfl ?_
  refine r_al0 (q := 22) C dX1_becomeLike_21 rfl ?_
  refine r_getR (q := 25) C f_X1_9 dX1_becomeLike_22 rfl rfl (by assumption) (by assumption) (by omega) ?_
  refine r_iconst (q := 26) C dX1_becomeLike_25 rfl ?_
  refine r_bipush (q := 28) C dX1_becomeLike_26 (by decide) rfl ?_
  refine r_copy (q := 31) C (0) (0) (8) w_copy_X1 dX1_becomeLike_28 rfl (by assumption) (by omega) (by assumption) (by omega) (by omega) (by omega) (by omega) (by omega) (by omega) (by decide) (by decide) (by decide) (by decide) ?_
  refine r_al1 (q := 32) C dX1_becomeLike_31 rfl ?_
  refine r_getR (q := 35) C f_X1_15 dX1_becomeLike_32 rfl rfl (by assumption) (by assumption) (by omega) ?_
  refine r_iconst (q := 36) C dX1_becomeLike_35 rfl ?_
  refine r_al0 (q := 37) C dX1_becomeLike_36 rfl ?_
  refine r_getR (q := 40) C f_X1_15 dX1_becomeLike_37 rfl rfl (by assumption) (by assumption) (by omega) ?_
  refine r_iconst (q := 41) C dX1_becomeLike_40 rfl ?_
  refine r_bipush (q := 43) C dX1_becomeLike_41 (by decide) rfl ?_
  refine r_copy (q := 46) C (0) (0) (8) w_copy_X1 dX1_becomeLike_43 rfl (by assumption) (by omega) (by assumption) (by omega) (by omega) (by omega) (by omega) (by omega) (by omega) (by decide) (by decide) (by decide) (by decide) ?_
  exact r_vret C hr dX1_becomeLike_46 (by decide) (by decide) ⟨rfl, rfl, rfl⟩
set_option maxRecDepth 20000 in
set_option maxHeartbeats 8000000 in
theorem c_X1_isEmptyAt {T : oT} {σ : oM} {aC ix : Nat} (hBx : oBx T aC) (hi : ix < 8) (hv : o_r (σ (aC + 1) ix)) : MS yX1_isEmptyAt cX1_isEmptyAt 2 (some FieldType.boolean) 0 0 0 0 [og aC, oi ((ix : Nat) : Int)] T σ (oPb (σ (aC + 1) ix = -1) T σ) := by
  have hBc := hBx
  obtain ⟨hB0, hB2, hB3, hBA1, hBA2, hBT⟩ := hBc
  refine o_met (by decide +kernel) (Nat.le_of_ble_eq_true rfl) (fun p l ee s m args below meth c G b C hr hn => ?_)
  have C : oCx p s m args meth c G b RX1 cX1_isEmptyAt 2 := C
  show oW p l ee ({ frames := 0, cells := 0, slots := 0, locals := 0 } : Room) s m args below meth c G b 2 0 0 (MQ below (o_Qc G b (oPb (σ (aC + 1) ix = -1) T σ)) args s 0 0 (fun q => b ≤ q)) T σ 0 [some (og aC), some (oi ((ix : Nat) : Int))] []
  refine r_al0 (q := 1) C dX1_isEmptyAt_0 rfl ?_
  refine r_getR (q := 4) C f_X1_9 dX1_isEmptyAt_1 rfl rfl (by assumption) (by assumption) (by omega) ?_
  refine r_il1 (q := 5) C dX1_isEmptyAt_4 rfl ?_
  refine r_iald (q := 6) C (ix) dX1_isEmptyAt_5 rfl (by assumption) (by omega) (by omega) (by omega) (by decide) ?_
  refine r_iconst (q := 7) C dX1_isEmptyAt_6 rfl ?_
  refine r_icne (q := 14) (q2 := 10) C hv (by omega) dX1_isEmptyAt_7 (by decide) rfl (fun br7 => ?_) (fun br7 => ?_)
  · refine r_iconst (q := 15) C dX1_isEmptyAt_14 rfl ?_
    exact r_zret C hr dX1_isEmptyAt_15 (by decide) (by decide) (by decide) ⟨Or.inr ⟨br7, rfl⟩, rfl, rfl⟩
  · refine r_iconst (q := 11) C dX1_isEmptyAt_10 rfl ?_
    refine r_goto (q := 15) C dX1_isEmptyAt_11 (by decide) ?_
    exact r_zret C hr dX1_isEmptyAt_15 (by decide) (by decide) (by decide) ⟨Or.inl ⟨br7, rfl⟩, rfl, rfl⟩
set_option maxRecDepth 20000 in
set_option maxHeartbeats 8000000 in
theorem c_X1_things {T : oT} {σ : oM} {aC Nn : Nat} (hBx : oBx T aC) (hNn : σ aC 1 = (Nn : Int)) (hN8 : Nn ≤ 8) (hv : ∀ jx, jx < 8 → o_r (σ (aC + 1) jx)) : MS yX1_things cX1_things 3 (some FieldType.int) 1 0 0 21 [og aC] T σ (oP1 (oi (sumF (fun jx => if σ (aC + 1) jx = -1 then 0 else 1) Nn)) T σ) := by
  have hBc := hBx
  obtain ⟨hB0, hB2, hB3, hBA1, hBA2, hBT⟩ := hBc
  refine o_met (by decide +kernel) (Nat.le_of_ble_eq_true rfl) (fun p l ee s m args below meth c G b C hr hn => ?_)
  have C : oCx p s m args meth c G b RX1 cX1_things 3 := C
  show oW p l ee ({ frames := 1, cells := 0, slots := 0, locals := 21 } : Room) s m args below meth c G b 3 0 0 (MQ below (o_Qc G b (oP1 (oi (sumF (fun jx => if σ (aC + 1) jx = -1 then 0 else 1) Nn)) T σ)) args s 0 0 (fun q => b ≤ q)) T σ 0 [some (og aC), none, none] []
  have lp : ∀ (n : Nat) (jx : Nat), Nn - jx < n → (jx ≤ Nn) → oW p l ee ({ frames := 1, cells := 0, slots := 0, locals := 21 } : Room) s m args below meth c G b 3 0 0 (MQ below (o_Qc G b (oP1 (oi (sumF (fun jx => if σ (aC + 1) jx = -1 then 0 else 1) Nn)) T σ)) args s 0 0 (fun q => b ≤ q)) T σ 4 [some (og aC), some (oi (sumF (fun jx => if σ (aC + 1) jx = -1 then 0 else 1) jx)), some (oi ((jx : Nat) : Int))] [] := by
    intro n
    induction n with
    | zero =>
      intro jx hms
      exact absurd hms (Nat.not_lt_zero _)
    | succ n ih =>
      intro jx hms h1
      refine r_il2 (q := 5) C dX1_things_4 rfl ?_
      refine r_al0 (q := 6) C dX1_things_5 rfl ?_
      refine r_getI (q := 9) C f_X1_22 dX1_things_6 rfl rfl (by assumption) (by omega) ?_
      refine r_icge (q := 34) (q2 := 12) C (by omega) (by omega) dX1_things_9 (by decide) rfl (fun br9 => ?_) (fun br9 => ?_)
      · refine r_il1 (q := 35) C dX1_things_34 rfl ?_
        obtain rfl : jx = Nn := by omega
        exact r_iret C hr dX1_things_35 (by decide) (by decide) ⟨rfl, rfl, rfl⟩
      · refine r_il1 (q := 13) C dX1_things_12 rfl ?_
        refine r_al0 (q := 14) C dX1_things_13 rfl ?_
        refine r_il2 (q := 15) C dX1_things_14 rfl ?_
        refine r_callVb (q := 18) C (c_X1_isEmptyAt hBx (by omega) (hv jx (by omega))) m_X1_35 (by assumption) (by omega) dX1_things_15 rfl rfl (by decide) (by decide) (Nat.le_of_ble_eq_true rfl) (fun br15 => ?_) (fun br15 => ?_)
        · refine r_ifeq_f (q := 25) (q2 := 21) C (by decide) (by omega) dX1_things_18 (by decide) rfl ?_
          refine r_iconst (q := 22) C dX1_things_21 rfl ?_
          refine r_goto (q := 26) C dX1_things_22 (by decide) ?_
          refine r_iadd (q := 27) C dX1_things_26 rfl ?_
          refine r_is1 (q := 28) C dX1_things_27 rfl (by decide) ?_
          refine r_iinc2 (q := 31) C dX1_things_28 rfl (by decide) ?_
          refine r_goto (q := 4) C dX1_things_31 (by decide) ?_
          have hs1 : sumF (fun jx => if σ (aC + 1) jx = -1 then 0 else 1) jx + 0 = sumF (fun jx => if σ (aC + 1) jx = -1 then 0 else 1) (jx + 1) := by
            rw [show sumF (fun jx => if σ (aC + 1) jx = -1 then 0 else 1) (jx + 1) = sumF (fun jx => if σ (aC + 1) jx = -1 then 0 else 1) jx + ((fun jx => if σ (aC + 1) jx = -1 then 0 else 1) jx) from rfl]
            simp only [if_pos br15]
          rw [hs1]
          exact ih (jx + 1) (by omega) (by omega)
        · refine r_ifeq_t (q := 25) C (by decide) (by omega) dX1_things_18 (by decide) ?_
          refine r_iconst (q := 26) C dX1_things_25 rfl ?_
          refine r_iadd (q := 27) C dX1_things_26 rfl ?_
          refine r_is1 (q := 28) C dX1_things_27 rfl (by decide) ?_
          refine r_iinc2 (q := 31) C dX1_things_28 rfl (by decide) ?_
          refine r_goto (q := 4) C dX1_things_31 (by decide) ?_
          have hs1 : sumF (fun jx => if σ (aC + 1) jx = -1 then 0 else 1) jx + 1 = sumF (fun jx => if σ (aC + 1) jx = -1 then 0 else 1) (jx + 1) := by
            rw [show sumF (fun jx => if σ (aC + 1) jx = -1 then 0 else 1) (jx + 1) = sumF (fun jx => if σ (aC + 1) jx = -1 then 0 else 1) jx + ((fun jx => if σ (aC + 1) jx = -1 then 0 else 1) jx) from rfl]
            simp only [if_neg br15]
          rw [hs1]
          exact ih (jx + 1) (by omega) (by omega)
  refine r_iconst (q := 1) C dX1_things_0 rfl ?_
  refine r_is1 (q := 2) C dX1_things_1 rfl (by decide) ?_
  refine r_iconst (q := 3) C dX1_things_2 rfl ?_
  refine r_is2 (q := 4) C dX1_things_3 rfl (by decide) ?_
  exact lp _ 0 (Nat.lt_succ_self _) (by omega)
set_option maxRecDepth 20000 in
set_option maxHeartbeats 8000000 in
theorem c_X1_takes {T : oT} {σ : oM} {aC : Nat} {ins : Int} (hBx : oBx T aC) (hs : o_r (σ aC 0)) (hi : o_r ins) : MS yX1_takes cX1_takes 2 (some FieldType.boolean) 2 0 0 42 [og aC, oi ins] T σ (oPb (takesF (σ aC 0) ins) T σ) := by
  have hBc := hBx
  obtain ⟨hB0, hB2, hB3, hBA1, hBA2, hBT⟩ := hBc
  refine o_met (by decide +kernel) (Nat.le_of_ble_eq_true rfl) (fun p l ee s m args below meth c G b C hr hn => ?_)
  have C : oCx p s m args meth c G b RX1 cX1_takes 2 := C
  show oW p l ee ({ frames := 2, cells := 0, slots := 0, locals := 42 } : Room) s m args below meth c G b 2 0 0 (MQ below (o_Qc G b (oPb (takesF (σ aC 0) ins) T σ)) args s 0 0 (fun q => b ≤ q)) T σ 0 [some (og aC), some (oi ins)] []
  refine r_al0 (q := 1) C dX1_takes_0 rfl ?_
  refine r_getI (q := 4) C f_X1_18 dX1_takes_1 rfl rfl (by assumption) (by omega) ?_
  rcases (show σ aC 0 = 1 ∨ σ aC 0 = 2 ∨ σ aC 0 = 3 ∨ (σ aC 0 < 1 ∨ 3 < σ aC 0) by omega) with hw1 | hw1 | hw1 | hw1
  ·
    refine r_tsin (q := 32) (j := 0) C dX1_takes_4 (by omega) (by omega) (by decide) rfl (by decide) ?_
    refine r_il1 (q := 33) C dX1_takes_32 rfl ?_
    refine r_iconst (q := 34) C dX1_takes_33 rfl ?_
    refine r_icne (q := 41) (q2 := 37) C (by omega) (by omega) dX1_takes_34 (by decide) rfl (fun br34 => ?_) (fun br34 => ?_)
    · refine r_iconst (q := 42) C dX1_takes_41 rfl ?_
      exact r_zret C hr dX1_takes_42 (by decide) (by decide) (by decide) ⟨Or.inr ⟨by rw [takesF, if_pos hw1]; omega, rfl⟩, rfl, rfl⟩
    · refine r_iconst (q := 38) C dX1_takes_37 rfl ?_
      refine r_goto (q := 42) C dX1_takes_38 (by decide) ?_
      exact r_zret C hr dX1_takes_42 (by decide) (by decide) (by decide) ⟨Or.inl ⟨by rw [takesF, if_pos hw1]; omega, rfl⟩, rfl, rfl⟩
  ·
    refine r_tsin (q := 43) (j := 1) C dX1_takes_4 (by omega) (by omega) (by decide) rfl (by decide) ?_
    refine r_il1 (q := 44) C dX1_takes_43 rfl ?_
    refine r_iconst (q := 45) C dX1_takes_44 rfl ?_
    refine r_iceq (q := 52) (q2 := 48) C (by omega) (by omega) dX1_takes_45 (by decide) rfl (fun br45 => ?_) (fun br45 => ?_)
    · refine r_iconst (q := 53) C dX1_takes_52 rfl ?_
      exact r_zret C hr dX1_takes_53 (by decide) (by decide) (by decide) ⟨Or.inr ⟨by rw [takesF, if_neg (by omega), if_pos hw1]; omega, rfl⟩, rfl, rfl⟩
    · refine r_iconst (q := 49) C dX1_takes_48 rfl ?_
      refine r_goto (q := 53) C dX1_takes_49 (by decide) ?_
      exact r_zret C hr dX1_takes_53 (by decide) (by decide) (by decide) ⟨Or.inl ⟨by rw [takesF, if_neg (by omega), if_pos hw1]; omega, rfl⟩, rfl, rfl⟩
  ·
    refine r_tsin (q := 54) (j := 2) C dX1_takes_4 (by omega) (by omega) (by decide) rfl (by decide) ?_
    refine r_il1 (q := 55) C dX1_takes_54 rfl ?_
    refine r_callSN (q := 58) C (c_X8_isString hi) C.2.2.2.2.2.1.2.1.2.2 ⟨⟨o_t3 172 rfl rfl, o_t1 1 rfl rfl, o_t3 173 rfl rfl⟩, by decide, by decide, by show _ = some 1; decide⟩ dX1_takes_55 rfl rfl (by decide) (by decide) (by decide) (fun r2 T2 σ2 hσ2 => ?_)
    obtain ⟨hb, rfl, rfl⟩ := hσ2
    rcases hb with ⟨hb, rfl⟩ | ⟨hb, rfl⟩
    · exact r_zret C hr dX1_takes_58 (by decide) (by decide) (by decide) ⟨Or.inl ⟨by rw [takesF, if_neg (by omega), if_neg (by omega), if_pos hw1]; exact hb, rfl⟩, rfl, rfl⟩
    · exact r_zret C hr dX1_takes_58 (by decide) (by decide) (by decide) ⟨Or.inr ⟨by rw [takesF, if_neg (by omega), if_neg (by omega), if_pos hw1]; exact hb, rfl⟩, rfl, rfl⟩
  ·
    refine r_tsout (q := 59) C dX1_takes_4 (by omega) (by omega) (by decide) ?_
    refine r_iconst (q := 60) C dX1_takes_59 rfl ?_
    exact r_zret C hr dX1_takes_60 (by decide) (by decide) (by decide) ⟨Or.inl ⟨by rw [takesF, if_neg (by omega), if_neg (by omega), if_neg (by omega)]; trivial, rfl⟩, rfl, rfl⟩
