set_option maxRecDepth 20000 in
theorem uw_X0 : ∀ w ∈ u_ws RX0 TX0 5, w ∈ oALL := by
  show ∀ w ∈ [u_lay RX0 TX0 0, u_lay RX0 TX0 1, u_lay RX0 TX0 2, u_lay RX0 TX0 3, u_lay RX0 TX0 4], w ∈ oALL
  exact List.forall_mem_cons.mpr ⟨o_t2 8 rfl rfl, List.forall_mem_cons.mpr ⟨o_t2 10 rfl rfl, List.forall_mem_cons.mpr ⟨o_t2 12 rfl rfl, List.forall_mem_cons.mpr ⟨o_t2 14 rfl rfl, List.forall_mem_cons.mpr ⟨o_t2 16 rfl rfl, fun _ h => absurd h List.not_mem_nil⟩⟩⟩⟩⟩
set_option maxRecDepth 20000 in
theorem cf_X0 : o_CF 0 RX0 TX0 5 := ⟨rfl, uw_X0, rfl, tyX0_ok, nmX0, by decide⟩
set_option maxRecDepth 20000 in
theorem uw_X1 : ∀ w ∈ u_ws RX1 TX1 4, w ∈ oALL := by
  show ∀ w ∈ [u_lay RX1 TX1 0, u_lay RX1 TX1 1, u_lay RX1 TX1 2, u_lay RX1 TX1 3], w ∈ oALL
  exact List.forall_mem_cons.mpr ⟨o_t2 33 rfl rfl, List.forall_mem_cons.mpr ⟨o_t2 35 rfl rfl, List.forall_mem_cons.mpr ⟨o_t2 37 rfl rfl, List.forall_mem_cons.mpr ⟨o_t2 39 rfl rfl, fun _ h => absurd h List.not_mem_nil⟩⟩⟩⟩
set_option maxRecDepth 20000 in
theorem cf_X1 : o_CF 1 RX1 TX1 4 := ⟨rfl, uw_X1, rfl, tyX1_ok, nmX1, by decide⟩
set_option maxRecDepth 20000 in
theorem uw_X2 : ∀ w ∈ u_ws RX2 TX2 6, w ∈ oALL := by
  show ∀ w ∈ [u_lay RX2 TX2 0, u_lay RX2 TX2 1, u_lay RX2 TX2 2, u_lay RX2 TX2 3, u_lay RX2 TX2 4, u_lay RX2 TX2 5], w ∈ oALL
  exact List.forall_mem_cons.mpr ⟨o_t2 59 rfl rfl, List.forall_mem_cons.mpr ⟨o_t2 61 rfl rfl, List.forall_mem_cons.mpr ⟨o_t2 63 rfl rfl, List.forall_mem_cons.mpr ⟨o_t2 65 rfl rfl, List.forall_mem_cons.mpr ⟨o_t2 67 rfl rfl, List.forall_mem_cons.mpr ⟨o_t2 69 rfl rfl, fun _ h => absurd h List.not_mem_nil⟩⟩⟩⟩⟩⟩
set_option maxRecDepth 20000 in
theorem cf_X2 : o_CF 2 RX2 TX2 6 := ⟨rfl, uw_X2, rfl, tyX2_ok, nmX2, by decide⟩
set_option maxRecDepth 20000 in
theorem uw_X3 : ∀ w ∈ u_ws RX3 TX3 7, w ∈ oALL := by
  show ∀ w ∈ [u_lay RX3 TX3 0, u_lay RX3 TX3 1, u_lay RX3 TX3 2, u_lay RX3 TX3 3, u_lay RX3 TX3 4, u_lay RX3 TX3 5, u_lay RX3 TX3 6], w ∈ oALL
  exact List.forall_mem_cons.mpr ⟨o_t1 217 rfl rfl, List.forall_mem_cons.mpr ⟨o_t1 219 rfl rfl, List.forall_mem_cons.mpr ⟨o_t1 221 rfl rfl, List.forall_mem_cons.mpr ⟨o_t1 223 rfl rfl, List.forall_mem_cons.mpr ⟨o_t1 225 rfl rfl, List.forall_mem_cons.mpr ⟨o_t1 227 rfl rfl, List.forall_mem_cons.mpr ⟨o_t1 229 rfl rfl, fun _ h => absurd h List.not_mem_nil⟩⟩⟩⟩⟩⟩⟩
set_option maxRecDepth 20000 in
theorem cf_X3 : o_CF 3 RX3 TX3 7 := ⟨rfl, uw_X3, rfl, tyX3_ok, nmX3, by decide⟩
set_option maxRecDepth 20000 in
theorem uw_X4 : ∀ w ∈ u_ws RX4 TX4 11, w ∈ oALL := by
  show ∀ w ∈ [u_lay RX4 TX4 0, u_lay RX4 TX4 1, u_lay RX4 TX4 2, u_lay RX4 TX4 3, u_lay RX4 TX4 4, u_lay RX4 TX4 5, u_lay RX4 TX4 6, u_lay RX4 TX4 7, u_lay RX4 TX4 8, u_lay RX4 TX4 9, u_lay RX4 TX4 10], w ∈ oALL
  exact List.forall_mem_cons.mpr ⟨o_t1 73 rfl rfl, List.forall_mem_cons.mpr ⟨o_t1 75 rfl rfl, List.forall_mem_cons.mpr ⟨o_t1 77 rfl rfl, List.forall_mem_cons.mpr ⟨o_t1 79 rfl rfl, List.forall_mem_cons.mpr ⟨o_t1 81 rfl rfl, List.forall_mem_cons.mpr ⟨o_t1 83 rfl rfl, List.forall_mem_cons.mpr ⟨o_t1 85 rfl rfl, List.forall_mem_cons.mpr ⟨o_t1 87 rfl rfl, List.forall_mem_cons.mpr ⟨o_t1 89 rfl rfl, List.forall_mem_cons.mpr ⟨o_t1 91 rfl rfl, List.forall_mem_cons.mpr ⟨o_t1 93 rfl rfl, fun _ h => absurd h List.not_mem_nil⟩⟩⟩⟩⟩⟩⟩⟩⟩⟩⟩
set_option maxRecDepth 20000 in
theorem cf_X4 : o_CF 4 RX4 TX4 11 := ⟨rfl, uw_X4, rfl, tyX4_ok, nmX4, by decide⟩
set_option maxRecDepth 20000 in
theorem uw_X5 : ∀ w ∈ u_ws RX5 TX5 3, w ∈ oALL := by
  show ∀ w ∈ [u_lay RX5 TX5 0, u_lay RX5 TX5 1, u_lay RX5 TX5 2], w ∈ oALL
  exact List.forall_mem_cons.mpr ⟨o_t1 190 rfl rfl, List.forall_mem_cons.mpr ⟨o_t1 192 rfl rfl, List.forall_mem_cons.mpr ⟨o_t1 194 rfl rfl, fun _ h => absurd h List.not_mem_nil⟩⟩⟩
set_option maxRecDepth 20000 in
theorem cf_X5 : o_CF 5 RX5 TX5 3 := ⟨rfl, uw_X5, rfl, tyX5_ok, nmX5, by decide⟩
set_option maxRecDepth 20000 in
theorem uw_X6 : ∀ w ∈ u_ws RX6 TX6 8, w ∈ oALL := by
  show ∀ w ∈ [u_lay RX6 TX6 0, u_lay RX6 TX6 1, u_lay RX6 TX6 2, u_lay RX6 TX6 3, u_lay RX6 TX6 4, u_lay RX6 TX6 5, u_lay RX6 TX6 6, u_lay RX6 TX6 7], w ∈ oALL
  exact List.forall_mem_cons.mpr ⟨o_t1 160 rfl rfl, List.forall_mem_cons.mpr ⟨o_t1 162 rfl rfl, List.forall_mem_cons.mpr ⟨o_t1 164 rfl rfl, List.forall_mem_cons.mpr ⟨o_t1 166 rfl rfl, List.forall_mem_cons.mpr ⟨o_t1 168 rfl rfl, List.forall_mem_cons.mpr ⟨o_t1 170 rfl rfl, List.forall_mem_cons.mpr ⟨o_t1 172 rfl rfl, List.forall_mem_cons.mpr ⟨o_t1 174 rfl rfl, fun _ h => absurd h List.not_mem_nil⟩⟩⟩⟩⟩⟩⟩⟩
set_option maxRecDepth 20000 in
theorem cf_X6 : o_CF 6 RX6 TX6 8 := ⟨rfl, uw_X6, rfl, tyX6_ok, nmX6, by decide⟩
set_option maxRecDepth 20000 in
theorem uw_X7 : ∀ w ∈ u_ws RX7 TX7 8, w ∈ oALL := by
  show ∀ w ∈ [u_lay RX7 TX7 0, u_lay RX7 TX7 1, u_lay RX7 TX7 2, u_lay RX7 TX7 3, u_lay RX7 TX7 4, u_lay RX7 TX7 5, u_lay RX7 TX7 6, u_lay RX7 TX7 7], w ∈ oALL
  exact List.forall_mem_cons.mpr ⟨o_t1 127 rfl rfl, List.forall_mem_cons.mpr ⟨o_t1 129 rfl rfl, List.forall_mem_cons.mpr ⟨o_t1 131 rfl rfl, List.forall_mem_cons.mpr ⟨o_t1 133 rfl rfl, List.forall_mem_cons.mpr ⟨o_t1 135 rfl rfl, List.forall_mem_cons.mpr ⟨o_t1 137 rfl rfl, List.forall_mem_cons.mpr ⟨o_t1 139 rfl rfl, List.forall_mem_cons.mpr ⟨o_t1 141 rfl rfl, fun _ h => absurd h List.not_mem_nil⟩⟩⟩⟩⟩⟩⟩⟩
set_option maxRecDepth 20000 in
theorem cf_X7 : o_CF 7 RX7 TX7 8 := ⟨rfl, uw_X7, rfl, tyX7_ok, nmX7, by decide⟩
set_option maxRecDepth 20000 in
theorem uw_X8 : ∀ w ∈ u_ws RX8 TX8 11, w ∈ oALL := by
  show ∀ w ∈ [u_lay RX8 TX8 0, u_lay RX8 TX8 1, u_lay RX8 TX8 2, u_lay RX8 TX8 3, u_lay RX8 TX8 4, u_lay RX8 TX8 5, u_lay RX8 TX8 6, u_lay RX8 TX8 7, u_lay RX8 TX8 8, u_lay RX8 TX8 9, u_lay RX8 TX8 10], w ∈ oALL
  exact List.forall_mem_cons.mpr ⟨o_t2 84 rfl rfl, List.forall_mem_cons.mpr ⟨o_t2 86 rfl rfl, List.forall_mem_cons.mpr ⟨o_t2 88 rfl rfl, List.forall_mem_cons.mpr ⟨o_t2 90 rfl rfl, List.forall_mem_cons.mpr ⟨o_t2 92 rfl rfl, List.forall_mem_cons.mpr ⟨o_t2 94 rfl rfl, List.forall_mem_cons.mpr ⟨o_t2 96 rfl rfl, List.forall_mem_cons.mpr ⟨o_t2 98 rfl rfl, List.forall_mem_cons.mpr ⟨o_t2 100 rfl rfl, List.forall_mem_cons.mpr ⟨o_t2 102 rfl rfl, List.forall_mem_cons.mpr ⟨o_t2 104 rfl rfl, fun _ h => absurd h List.not_mem_nil⟩⟩⟩⟩⟩⟩⟩⟩⟩⟩⟩
set_option maxRecDepth 20000 in
theorem cf_X8 : o_CF 8 RX8 TX8 11 := ⟨rfl, uw_X8, rfl, tyX8_ok, nmX8, by decide⟩
set_option maxRecDepth 20000 in
theorem uw_X9 : ∀ w ∈ u_ws RX9 TX9 28, w ∈ oALL := by
  show ∀ w ∈ [u_lay RX9 TX9 0, u_lay RX9 TX9 1, u_lay RX9 TX9 2, u_lay RX9 TX9 3, u_lay RX9 TX9 4, u_lay RX9 TX9 5, u_lay RX9 TX9 6, u_lay RX9 TX9 7, u_lay RX9 TX9 8, u_lay RX9 TX9 9, u_lay RX9 TX9 10, u_lay RX9 TX9 11, u_lay RX9 TX9 12, u_lay RX9 TX9 13, u_lay RX9 TX9 14, u_lay RX9 TX9 15, u_lay RX9 TX9 16, u_lay RX9 TX9 17, u_lay RX9 TX9 18, u_lay RX9 TX9 19, u_lay RX9 TX9 20, u_lay RX9 TX9 21, u_lay RX9 TX9 22, u_lay RX9 TX9 23, u_lay RX9 TX9 24, u_lay RX9 TX9 25, u_lay RX9 TX9 26, u_lay RX9 TX9 27], w ∈ oALL
  exact List.forall_mem_cons.mpr ⟨o_t5 36 rfl rfl, List.forall_mem_cons.mpr ⟨o_t5 38 rfl rfl, List.forall_mem_cons.mpr ⟨o_t5 40 rfl rfl, List.forall_mem_cons.mpr ⟨o_t5 42 rfl rfl, List.forall_mem_cons.mpr ⟨o_t5 44 rfl rfl, List.forall_mem_cons.mpr ⟨o_t5 46 rfl rfl, List.forall_mem_cons.mpr ⟨o_t5 48 rfl rfl, List.forall_mem_cons.mpr ⟨o_t5 50 rfl rfl, List.forall_mem_cons.mpr ⟨o_t5 52 rfl rfl, List.forall_mem_cons.mpr ⟨o_t5 54 rfl rfl, List.forall_mem_cons.mpr ⟨o_t5 56 rfl rfl, List.forall_mem_cons.mpr ⟨o_t5 58 rfl rfl, List.forall_mem_cons.mpr ⟨o_t5 60 rfl rfl, List.forall_mem_cons.mpr ⟨o_t5 62 rfl rfl, List.forall_mem_cons.mpr ⟨o_t5 64 rfl rfl, List.forall_mem_cons.mpr ⟨o_t5 66 rfl rfl, List.forall_mem_cons.mpr ⟨o_t5 68 rfl rfl, List.forall_mem_cons.mpr ⟨o_t5 70 rfl rfl, List.forall_mem_cons.mpr ⟨o_t5 72 rfl rfl, List.forall_mem_cons.mpr ⟨o_t5 74 rfl rfl, List.forall_mem_cons.mpr ⟨o_t5 76 rfl rfl, List.forall_mem_cons.mpr ⟨o_t5 78 rfl rfl, List.forall_mem_cons.mpr ⟨o_t5 80 rfl rfl, List.forall_mem_cons.mpr ⟨o_t5 82 rfl rfl, List.forall_mem_cons.mpr ⟨o_t5 84 rfl rfl, List.forall_mem_cons.mpr ⟨o_t5 86 rfl rfl, List.forall_mem_cons.mpr ⟨o_t5 88 rfl rfl, List.forall_mem_cons.mpr ⟨o_t5 90 rfl rfl, fun _ h => absurd h List.not_mem_nil⟩⟩⟩⟩⟩⟩⟩⟩⟩⟩⟩⟩⟩⟩⟩⟩⟩⟩⟩⟩⟩⟩⟩⟩⟩⟩⟩⟩
set_option maxRecDepth 20000 in
theorem cf_X9 : o_CF 9 RX9 TX9 28 := ⟨rfl, uw_X9, rfl, tyX9_ok, nmX9, by decide⟩
set_option maxRecDepth 20000 in
theorem f_X8_10 : o_F RX8 10 8 0 := ⟨RX8, TX8, 11, cf_X8, o_t2 73 rfl rfl, by decide⟩
set_option maxRecDepth 20000 in
theorem fp_X8_10 : o_FP RX8 10 8 0 true := ⟨RX8, TX8, 11, cf_X8, o_t2 73 rfl rfl, by decide, rfl, fun _ => rfl⟩
set_option maxRecDepth 20000 in
theorem f_X8_16 : o_F RX8 16 8 1 := ⟨RX8, TX8, 11, cf_X8, o_t2 74 rfl rfl, by decide⟩
set_option maxRecDepth 20000 in
theorem fp_X8_16 : o_FP RX8 16 8 1 true := ⟨RX8, TX8, 11, cf_X8, o_t2 74 rfl rfl, by decide, rfl, fun _ => rfl⟩
set_option maxRecDepth 20000 in
theorem f_X8_22 : o_F RX8 22 8 2 := ⟨RX8, TX8, 11, cf_X8, o_t2 75 rfl rfl, by decide⟩
set_option maxRecDepth 20000 in
theorem fp_X8_22 : o_FP RX8 22 8 2 true := ⟨RX8, TX8, 11, cf_X8, o_t2 75 rfl rfl, by decide, rfl, fun _ => rfl⟩
set_option maxRecDepth 20000 in
theorem f_X8_29 : o_F RX8 29 8 3 := ⟨RX8, TX8, 11, cf_X8, o_t2 76 rfl rfl, by decide⟩
set_option maxRecDepth 20000 in
theorem fp_X8_29 : o_FP RX8 29 8 3 true := ⟨RX8, TX8, 11, cf_X8, o_t2 76 rfl rfl, by decide, rfl, fun _ => rfl⟩
set_option maxRecDepth 20000 in
theorem f_X8_36 : o_F RX8 36 8 4 := ⟨RX8, TX8, 11, cf_X8, o_t2 77 rfl rfl, by decide⟩
set_option maxRecDepth 20000 in
theorem fp_X8_36 : o_FP RX8 36 8 4 true := ⟨RX8, TX8, 11, cf_X8, o_t2 77 rfl rfl, by decide, rfl, fun _ => rfl⟩
set_option maxRecDepth 20000 in
theorem f_X8_42 : o_F RX8 42 8 5 := ⟨RX8, TX8, 11, cf_X8, o_t2 78 rfl rfl, by decide⟩
set_option maxRecDepth 20000 in
theorem fp_X8_42 : o_FP RX8 42 8 5 true := ⟨RX8, TX8, 11, cf_X8, o_t2 78 rfl rfl, by decide, rfl, fun _ => rfl⟩
set_option maxRecDepth 20000 in
theorem f_X8_50 : o_F RX8 50 8 6 := ⟨RX8, TX8, 11, cf_X8, o_t2 79 rfl rfl, by decide⟩
set_option maxRecDepth 20000 in
theorem fp_X8_50 : o_FP RX8 50 8 6 true := ⟨RX8, TX8, 11, cf_X8, o_t2 79 rfl rfl, by decide, rfl, fun _ => rfl⟩
set_option maxRecDepth 20000 in
theorem f_X8_54 : o_F RX8 54 8 7 := ⟨RX8, TX8, 11, cf_X8, o_t2 80 rfl rfl, by decide⟩
set_option maxRecDepth 20000 in
theorem fp_X8_54 : o_FP RX8 54 8 7 false := ⟨RX8, TX8, 11, cf_X8, o_t2 80 rfl rfl, by decide, rfl, fun h => absurd h (by decide)⟩
set_option maxRecDepth 20000 in
theorem f_X8_58 : o_F RX8 58 8 8 := ⟨RX8, TX8, 11, cf_X8, o_t2 81 rfl rfl, by decide⟩
set_option maxRecDepth 20000 in
theorem fp_X8_58 : o_FP RX8 58 8 8 false := ⟨RX8, TX8, 11, cf_X8, o_t2 81 rfl rfl, by decide, rfl, fun h => absurd h (by decide)⟩
set_option maxRecDepth 20000 in
theorem f_X8_62 : o_F RX8 62 8 9 := ⟨RX8, TX8, 11, cf_X8, o_t2 82 rfl rfl, by decide⟩
set_option maxRecDepth 20000 in
theorem fp_X8_62 : o_FP RX8 62 8 9 false := ⟨RX8, TX8, 11, cf_X8, o_t2 82 rfl rfl, by decide, rfl, fun h => absurd h (by decide)⟩
set_option maxRecDepth 20000 in
theorem f_X8_65 : o_F RX8 65 8 10 := ⟨RX8, TX8, 11, cf_X8, o_t2 83 rfl rfl, by decide⟩
set_option maxRecDepth 20000 in
theorem fp_X8_65 : o_FP RX8 65 8 10 false := ⟨RX8, TX8, 11, cf_X8, o_t2 83 rfl rfl, by decide, rfl, fun h => absurd h (by decide)⟩
set_option maxRecDepth 20000 in
theorem f_X8_76 : o_F RX8 76 6 0 := ⟨RX6, TX6, 8, cf_X6, o_t1 145 rfl rfl, by decide⟩
set_option maxRecDepth 20000 in
theorem fp_X8_76 : o_FP RX8 76 6 0 false := ⟨RX6, TX6, 8, cf_X6, o_t1 145 rfl rfl, by decide, rfl, fun h => absurd h (by decide)⟩
set_option maxRecDepth 20000 in
theorem f_X8_107 : o_F RX8 107 6 1 := ⟨RX6, TX6, 8, cf_X6, o_t1 147 rfl rfl, by decide⟩
set_option maxRecDepth 20000 in
theorem f_X8_111 : o_F RX8 111 4 2 := ⟨RX4, TX4, 11, cf_X4, o_t1 50 rfl rfl, by decide⟩
set_option maxRecDepth 20000 in
theorem fp_X8_111 : o_FP RX8 111 4 2 false := ⟨RX4, TX4, 11, cf_X4, o_t1 50 rfl rfl, by decide, rfl, fun h => absurd h (by decide)⟩
set_option maxRecDepth 20000 in
theorem f_X8_131 : o_F RX8 131 6 2 := ⟨RX6, TX6, 8, cf_X6, o_t1 149 rfl rfl, by decide⟩
set_option maxRecDepth 20000 in
theorem f_X8_135 : o_F RX8 135 4 0 := ⟨RX4, TX4, 11, cf_X4, o_t1 43 rfl rfl, by decide⟩
set_option maxRecDepth 20000 in
theorem fp_X8_135 : o_FP RX8 135 4 0 false := ⟨RX4, TX4, 11, cf_X4, o_t1 43 rfl rfl, by decide, rfl, fun h => absurd h (by decide)⟩
set_option maxRecDepth 20000 in
theorem f_X8_145 : o_F RX8 145 6 3 := ⟨RX6, TX6, 8, cf_X6, o_t1 151 rfl rfl, by decide⟩
set_option maxRecDepth 20000 in
theorem f_X8_148 : o_F RX8 148 4 4 := ⟨RX4, TX4, 11, cf_X4, o_t1 58 rfl rfl, by decide⟩
set_option maxRecDepth 20000 in
theorem f_X8_151 : o_F RX8 151 4 5 := ⟨RX4, TX4, 11, cf_X4, o_t1 60 rfl rfl, by decide⟩
set_option maxRecDepth 20000 in
theorem f_X8_154 : o_F RX8 154 4 1 := ⟨RX4, TX4, 11, cf_X4, o_t1 46 rfl rfl, by decide⟩
set_option maxRecDepth 20000 in
theorem fp_X8_154 : o_FP RX8 154 4 1 false := ⟨RX4, TX4, 11, cf_X4, o_t1 46 rfl rfl, by decide, rfl, fun h => absurd h (by decide)⟩
set_option maxRecDepth 20000 in
theorem f_X8_170 : o_F RX8 170 4 3 := ⟨RX4, TX4, 11, cf_X4, o_t1 54 rfl rfl, by decide⟩
set_option maxRecDepth 20000 in
theorem f_X8_190 : o_F RX8 190 3 0 := ⟨RX3, TX3, 7, cf_X3, o_t1 204 rfl rfl, by decide⟩
set_option maxRecDepth 20000 in
theorem fp_X8_190 : o_FP RX8 190 3 0 false := ⟨RX3, TX3, 7, cf_X3, o_t1 204 rfl rfl, by decide, rfl, fun h => absurd h (by decide)⟩
set_option maxRecDepth 20000 in
theorem f_X8_193 : o_F RX8 193 3 1 := ⟨RX3, TX3, 7, cf_X3, o_t1 206 rfl rfl, by decide⟩
set_option maxRecDepth 20000 in
theorem fp_X8_193 : o_FP RX8 193 3 1 false := ⟨RX3, TX3, 7, cf_X3, o_t1 206 rfl rfl, by decide, rfl, fun h => absurd h (by decide)⟩
set_option maxRecDepth 20000 in
theorem f_X8_196 : o_F RX8 196 3 2 := ⟨RX3, TX3, 7, cf_X3, o_t1 208 rfl rfl, by decide⟩
set_option maxRecDepth 20000 in
theorem fp_X8_196 : o_FP RX8 196 3 2 false := ⟨RX3, TX3, 7, cf_X3, o_t1 208 rfl rfl, by decide, rfl, fun h => absurd h (by decide)⟩
set_option maxRecDepth 20000 in
theorem f_X8_199 : o_F RX8 199 3 3 := ⟨RX3, TX3, 7, cf_X3, o_t1 210 rfl rfl, by decide⟩
set_option maxRecDepth 20000 in
theorem f_X8_202 : o_F RX8 202 3 4 := ⟨RX3, TX3, 7, cf_X3, o_t1 212 rfl rfl, by decide⟩
set_option maxRecDepth 20000 in
theorem f_X8_205 : o_F RX8 205 3 5 := ⟨RX3, TX3, 7, cf_X3, o_t1 214 rfl rfl, by decide⟩
set_option maxRecDepth 20000 in
theorem f_X8_208 : o_F RX8 208 3 6 := ⟨RX3, TX3, 7, cf_X3, o_t1 216 rfl rfl, by decide⟩
set_option maxRecDepth 20000 in
theorem f_X8_214 : o_F RX8 214 4 6 := ⟨RX4, TX4, 11, cf_X4, o_t1 62 rfl rfl, by decide⟩
set_option maxRecDepth 20000 in
theorem f_X8_241 : o_F RX8 241 6 4 := ⟨RX6, TX6, 8, cf_X6, o_t1 153 rfl rfl, by decide⟩
set_option maxRecDepth 20000 in
theorem f_X8_250 : o_F RX8 250 4 8 := ⟨RX4, TX4, 11, cf_X4, o_t1 68 rfl rfl, by decide⟩
set_option maxRecDepth 20000 in
theorem f_X8_259 : o_F RX8 259 4 7 := ⟨RX4, TX4, 11, cf_X4, o_t1 65 rfl rfl, by decide⟩
set_option maxRecDepth 20000 in
theorem f_X8_267 : o_F RX8 267 0 1 := ⟨RX0, TX0, 5, cf_X0, o_t2 1 rfl rfl, by decide⟩
set_option maxRecDepth 20000 in
theorem fp_X8_267 : o_FP RX8 267 0 1 false := ⟨RX0, TX0, 5, cf_X0, o_t2 1 rfl rfl, by decide, rfl, fun h => absurd h (by decide)⟩
set_option maxRecDepth 20000 in
theorem f_X8_270 : o_F RX8 270 0 0 := ⟨RX0, TX0, 5, cf_X0, o_t1 239 rfl rfl, by decide⟩
set_option maxRecDepth 20000 in
theorem fp_X8_270 : o_FP RX8 270 0 0 false := ⟨RX0, TX0, 5, cf_X0, o_t1 239 rfl rfl, by decide, rfl, fun h => absurd h (by decide)⟩
set_option maxRecDepth 20000 in
theorem f_X8_273 : o_F RX8 273 0 2 := ⟨RX0, TX0, 5, cf_X0, o_t2 3 rfl rfl, by decide⟩
set_option maxRecDepth 20000 in
theorem fp_X8_273 : o_FP RX8 273 0 2 false := ⟨RX0, TX0, 5, cf_X0, o_t2 3 rfl rfl, by decide, rfl, fun h => absurd h (by decide)⟩
set_option maxRecDepth 20000 in
theorem f_X8_276 : o_F RX8 276 0 3 := ⟨RX0, TX0, 5, cf_X0, o_t2 5 rfl rfl, by decide⟩
set_option maxRecDepth 20000 in
theorem fp_X8_276 : o_FP RX8 276 0 3 false := ⟨RX0, TX0, 5, cf_X0, o_t2 5 rfl rfl, by decide, rfl, fun h => absurd h (by decide)⟩
set_option maxRecDepth 20000 in
theorem f_X8_279 : o_F RX8 279 0 4 := ⟨RX0, TX0, 5, cf_X0, o_t2 7 rfl rfl, by decide⟩
set_option maxRecDepth 20000 in
theorem fp_X8_279 : o_FP RX8 279 0 4 false := ⟨RX0, TX0, 5, cf_X0, o_t2 7 rfl rfl, by decide, rfl, fun h => absurd h (by decide)⟩
set_option maxRecDepth 20000 in
theorem f_X8_292 : o_F RX8 292 6 5 := ⟨RX6, TX6, 8, cf_X6, o_t1 155 rfl rfl, by decide⟩
set_option maxRecDepth 20000 in
theorem fp_X8_292 : o_FP RX8 292 6 5 false := ⟨RX6, TX6, 8, cf_X6, o_t1 155 rfl rfl, by decide, rfl, fun h => absurd h (by decide)⟩
set_option maxRecDepth 20000 in
theorem f_X8_314 : o_F RX8 314 6 6 := ⟨RX6, TX6, 8, cf_X6, o_t1 157 rfl rfl, by decide⟩
set_option maxRecDepth 20000 in
theorem f_X8_318 : o_F RX8 318 7 4 := ⟨RX7, TX7, 8, cf_X7, o_t1 118 rfl rfl, by decide⟩
set_option maxRecDepth 20000 in
theorem fp_X8_318 : o_FP RX8 318 7 4 false := ⟨RX7, TX7, 8, cf_X7, o_t1 118 rfl rfl, by decide, rfl, fun h => absurd h (by decide)⟩
set_option maxRecDepth 20000 in
theorem f_X8_326 : o_F RX8 326 7 0 := ⟨RX7, TX7, 8, cf_X7, o_t1 106 rfl rfl, by decide⟩
set_option maxRecDepth 20000 in
theorem fp_X8_326 : o_FP RX8 326 7 0 false := ⟨RX7, TX7, 8, cf_X7, o_t1 106 rfl rfl, by decide, rfl, fun h => absurd h (by decide)⟩
set_option maxRecDepth 20000 in
theorem f_X8_329 : o_F RX8 329 7 1 := ⟨RX7, TX7, 8, cf_X7, o_t1 109 rfl rfl, by decide⟩
set_option maxRecDepth 20000 in
theorem fp_X8_329 : o_FP RX8 329 7 1 false := ⟨RX7, TX7, 8, cf_X7, o_t1 109 rfl rfl, by decide, rfl, fun h => absurd h (by decide)⟩
set_option maxRecDepth 20000 in
theorem f_X8_332 : o_F RX8 332 7 2 := ⟨RX7, TX7, 8, cf_X7, o_t1 112 rfl rfl, by decide⟩
set_option maxRecDepth 20000 in
theorem fp_X8_332 : o_FP RX8 332 7 2 false := ⟨RX7, TX7, 8, cf_X7, o_t1 112 rfl rfl, by decide, rfl, fun h => absurd h (by decide)⟩
set_option maxRecDepth 20000 in
theorem f_X8_335 : o_F RX8 335 7 3 := ⟨RX7, TX7, 8, cf_X7, o_t1 115 rfl rfl, by decide⟩
set_option maxRecDepth 20000 in
theorem fp_X8_335 : o_FP RX8 335 7 3 false := ⟨RX7, TX7, 8, cf_X7, o_t1 115 rfl rfl, by decide, rfl, fun h => absurd h (by decide)⟩
set_option maxRecDepth 20000 in
theorem f_X8_338 : o_F RX8 338 7 6 := ⟨RX7, TX7, 8, cf_X7, o_t1 123 rfl rfl, by decide⟩
set_option maxRecDepth 20000 in
theorem fp_X8_338 : o_FP RX8 338 7 6 false := ⟨RX7, TX7, 8, cf_X7, o_t1 123 rfl rfl, by decide, rfl, fun h => absurd h (by decide)⟩
set_option maxRecDepth 20000 in
theorem f_X8_341 : o_F RX8 341 7 7 := ⟨RX7, TX7, 8, cf_X7, o_t1 126 rfl rfl, by decide⟩
set_option maxRecDepth 20000 in
theorem fp_X8_341 : o_FP RX8 341 7 7 false := ⟨RX7, TX7, 8, cf_X7, o_t1 126 rfl rfl, by decide, rfl, fun h => absurd h (by decide)⟩
set_option maxRecDepth 20000 in
theorem f_X8_344 : o_F RX8 344 6 7 := ⟨RX6, TX6, 8, cf_X6, o_t1 159 rfl rfl, by decide⟩
set_option maxRecDepth 20000 in
theorem fp_X8_344 : o_FP RX8 344 6 7 false := ⟨RX6, TX6, 8, cf_X6, o_t1 159 rfl rfl, by decide, rfl, fun h => absurd h (by decide)⟩
set_option maxRecDepth 20000 in
theorem f_X8_371 : o_F RX8 371 1 2 := ⟨RX1, TX1, 4, cf_X1, o_t2 30 rfl rfl, by decide⟩
set_option maxRecDepth 20000 in
theorem f_X8_373 : o_F RX8 373 1 3 := ⟨RX1, TX1, 4, cf_X1, o_t2 32 rfl rfl, by decide⟩
set_option maxRecDepth 20000 in
theorem f_X8_380 : o_F RX8 380 2 1 := ⟨RX2, TX2, 6, cf_X2, o_t2 51 rfl rfl, by decide⟩
set_option maxRecDepth 20000 in
theorem fp_X8_380 : o_FP RX8 380 2 1 false := ⟨RX2, TX2, 6, cf_X2, o_t2 51 rfl rfl, by decide, rfl, fun h => absurd h (by decide)⟩
set_option maxRecDepth 20000 in
theorem f_X8_390 : o_F RX8 390 2 3 := ⟨RX2, TX2, 6, cf_X2, o_t2 54 rfl rfl, by decide⟩
set_option maxRecDepth 20000 in
theorem fp_X8_390 : o_FP RX8 390 2 3 false := ⟨RX2, TX2, 6, cf_X2, o_t2 54 rfl rfl, by decide, rfl, fun h => absurd h (by decide)⟩
set_option maxRecDepth 20000 in
theorem f_X8_404 : o_F RX8 404 2 5 := ⟨RX2, TX2, 6, cf_X2, o_t2 58 rfl rfl, by decide⟩
set_option maxRecDepth 20000 in
theorem f_X8_407 : o_F RX8 407 2 4 := ⟨RX2, TX2, 6, cf_X2, o_t2 56 rfl rfl, by decide⟩
set_option maxRecDepth 20000 in
theorem f_X8_418 : o_F RX8 418 5 2 := ⟨RX5, TX5, 3, cf_X5, o_t1 189 rfl rfl, by decide⟩
set_option maxRecDepth 20000 in
theorem fp_X8_418 : o_FP RX8 418 5 2 false := ⟨RX5, TX5, 3, cf_X5, o_t1 189 rfl rfl, by decide, rfl, fun h => absurd h (by decide)⟩
set_option maxRecDepth 20000 in
theorem f_X8_426 : o_F RX8 426 1 1 := ⟨RX1, TX1, 4, cf_X1, o_t2 28 rfl rfl, by decide⟩
set_option maxRecDepth 20000 in
theorem fp_X8_426 : o_FP RX8 426 1 1 false := ⟨RX1, TX1, 4, cf_X1, o_t2 28 rfl rfl, by decide, rfl, fun h => absurd h (by decide)⟩
set_option maxRecDepth 20000 in
theorem f_X0_7 : o_F RX0 7 0 0 := ⟨RX0, TX0, 5, cf_X0, o_t1 238 rfl rfl, by decide⟩
set_option maxRecDepth 20000 in
theorem fp_X0_7 : o_FP RX0 7 0 0 false := ⟨RX0, TX0, 5, cf_X0, o_t1 238 rfl rfl, by decide, rfl, fun h => absurd h (by decide)⟩
set_option maxRecDepth 20000 in
theorem f_X0_13 : o_F RX0 13 0 1 := ⟨RX0, TX0, 5, cf_X0, o_t2 0 rfl rfl, by decide⟩
set_option maxRecDepth 20000 in
theorem fp_X0_13 : o_FP RX0 13 0 1 false := ⟨RX0, TX0, 5, cf_X0, o_t2 0 rfl rfl, by decide, rfl, fun h => absurd h (by decide)⟩
set_option maxRecDepth 20000 in
theorem f_X0_17 : o_F RX0 17 0 2 := ⟨RX0, TX0, 5, cf_X0, o_t2 2 rfl rfl, by decide⟩
set_option maxRecDepth 20000 in
theorem fp_X0_17 : o_FP RX0 17 0 2 false := ⟨RX0, TX0, 5, cf_X0, o_t2 2 rfl rfl, by decide, rfl, fun h => absurd h (by decide)⟩
set_option maxRecDepth 20000 in
theorem f_X0_20 : o_F RX0 20 0 3 := ⟨RX0, TX0, 5, cf_X0, o_t2 4 rfl rfl, by decide⟩
set_option maxRecDepth 20000 in
theorem fp_X0_20 : o_FP RX0 20 0 3 false := ⟨RX0, TX0, 5, cf_X0, o_t2 4 rfl rfl, by decide, rfl, fun h => absurd h (by decide)⟩
set_option maxRecDepth 20000 in
theorem f_X0_23 : o_F RX0 23 0 4 := ⟨RX0, TX0, 5, cf_X0, o_t2 6 rfl rfl, by decide⟩
set_option maxRecDepth 20000 in
theorem fp_X0_23 : o_FP RX0 23 0 4 false := ⟨RX0, TX0, 5, cf_X0, o_t2 6 rfl rfl, by decide, rfl, fun h => absurd h (by decide)⟩
set_option maxRecDepth 20000 in
theorem f_X0_26 : o_F RX0 26 4 2 := ⟨RX4, TX4, 11, cf_X4, o_t1 49 rfl rfl, by decide⟩
set_option maxRecDepth 20000 in
theorem fp_X0_26 : o_FP RX0 26 4 2 false := ⟨RX4, TX4, 11, cf_X4, o_t1 49 rfl rfl, by decide, rfl, fun h => absurd h (by decide)⟩
set_option maxRecDepth 20000 in
theorem f_X0_31 : o_F RX0 31 4 7 := ⟨RX4, TX4, 11, cf_X4, o_t1 64 rfl rfl, by decide⟩
set_option maxRecDepth 20000 in
theorem f_X0_39 : o_F RX0 39 4 3 := ⟨RX4, TX4, 11, cf_X4, o_t1 53 rfl rfl, by decide⟩
set_option maxRecDepth 20000 in
theorem f_X0_47 : o_F RX0 47 4 4 := ⟨RX4, TX4, 11, cf_X4, o_t1 57 rfl rfl, by decide⟩
set_option maxRecDepth 20000 in
theorem f_X1_9 : o_F RX1 9 1 2 := ⟨RX1, TX1, 4, cf_X1, o_t2 29 rfl rfl, by decide⟩
set_option maxRecDepth 20000 in
theorem fp_X1_9 : o_FP RX1 9 1 2 true := ⟨RX1, TX1, 4, cf_X1, o_t2 29 rfl rfl, by decide, rfl, fun _ => rfl⟩
set_option maxRecDepth 20000 in
theorem f_X1_15 : o_F RX1 15 1 3 := ⟨RX1, TX1, 4, cf_X1, o_t2 31 rfl rfl, by decide⟩
set_option maxRecDepth 20000 in
theorem fp_X1_15 : o_FP RX1 15 1 3 true := ⟨RX1, TX1, 4, cf_X1, o_t2 31 rfl rfl, by decide, rfl, fun _ => rfl⟩
set_option maxRecDepth 20000 in
theorem f_X1_18 : o_F RX1 18 1 0 := ⟨RX1, TX1, 4, cf_X1, o_t2 26 rfl rfl, by decide⟩
set_option maxRecDepth 20000 in
theorem fp_X1_18 : o_FP RX1 18 1 0 false := ⟨RX1, TX1, 4, cf_X1, o_t2 26 rfl rfl, by decide, rfl, fun h => absurd h (by decide)⟩
set_option maxRecDepth 20000 in
theorem f_X1_22 : o_F RX1 22 1 1 := ⟨RX1, TX1, 4, cf_X1, o_t2 27 rfl rfl, by decide⟩
set_option maxRecDepth 20000 in
theorem fp_X1_22 : o_FP RX1 22 1 1 false := ⟨RX1, TX1, 4, cf_X1, o_t2 27 rfl rfl, by decide, rfl, fun h => absurd h (by decide)⟩
set_option maxRecDepth 20000 in
theorem f_X2_9 : o_F RX2 9 2 0 := ⟨RX2, TX2, 6, cf_X2, o_t2 49 rfl rfl, by decide⟩
set_option maxRecDepth 20000 in
theorem fp_X2_9 : o_FP RX2 9 2 0 true := ⟨RX2, TX2, 6, cf_X2, o_t2 49 rfl rfl, by decide, rfl, fun _ => rfl⟩
set_option maxRecDepth 20000 in
theorem f_X2_15 : o_F RX2 15 2 4 := ⟨RX2, TX2, 6, cf_X2, o_t2 55 rfl rfl, by decide⟩
set_option maxRecDepth 20000 in
theorem fp_X2_15 : o_FP RX2 15 2 4 true := ⟨RX2, TX2, 6, cf_X2, o_t2 55 rfl rfl, by decide, rfl, fun _ => rfl⟩
set_option maxRecDepth 20000 in
theorem f_X2_20 : o_F RX2 20 2 5 := ⟨RX2, TX2, 6, cf_X2, o_t2 57 rfl rfl, by decide⟩
set_option maxRecDepth 20000 in
theorem fp_X2_20 : o_FP RX2 20 2 5 true := ⟨RX2, TX2, 6, cf_X2, o_t2 57 rfl rfl, by decide, rfl, fun _ => rfl⟩
set_option maxRecDepth 20000 in
theorem f_X2_23 : o_F RX2 23 2 1 := ⟨RX2, TX2, 6, cf_X2, o_t2 50 rfl rfl, by decide⟩
set_option maxRecDepth 20000 in
theorem fp_X2_23 : o_FP RX2 23 2 1 false := ⟨RX2, TX2, 6, cf_X2, o_t2 50 rfl rfl, by decide, rfl, fun h => absurd h (by decide)⟩
set_option maxRecDepth 20000 in
theorem f_X2_27 : o_F RX2 27 2 3 := ⟨RX2, TX2, 6, cf_X2, o_t2 53 rfl rfl, by decide⟩
set_option maxRecDepth 20000 in
theorem fp_X2_27 : o_FP RX2 27 2 3 false := ⟨RX2, TX2, 6, cf_X2, o_t2 53 rfl rfl, by decide, rfl, fun h => absurd h (by decide)⟩
set_option maxRecDepth 20000 in
theorem f_X2_30 : o_F RX2 30 2 2 := ⟨RX2, TX2, 6, cf_X2, o_t2 52 rfl rfl, by decide⟩
set_option maxRecDepth 20000 in
theorem fp_X2_30 : o_FP RX2 30 2 2 false := ⟨RX2, TX2, 6, cf_X2, o_t2 52 rfl rfl, by decide, rfl, fun h => absurd h (by decide)⟩
set_option maxRecDepth 20000 in
theorem f_X3_11 : o_F RX3 11 3 3 := ⟨RX3, TX3, 7, cf_X3, o_t1 209 rfl rfl, by decide⟩
set_option maxRecDepth 20000 in
theorem fp_X3_11 : o_FP RX3 11 3 3 true := ⟨RX3, TX3, 7, cf_X3, o_t1 209 rfl rfl, by decide, rfl, fun _ => rfl⟩
set_option maxRecDepth 20000 in
theorem f_X3_15 : o_F RX3 15 3 4 := ⟨RX3, TX3, 7, cf_X3, o_t1 211 rfl rfl, by decide⟩
set_option maxRecDepth 20000 in
theorem fp_X3_15 : o_FP RX3 15 3 4 true := ⟨RX3, TX3, 7, cf_X3, o_t1 211 rfl rfl, by decide, rfl, fun _ => rfl⟩
set_option maxRecDepth 20000 in
theorem f_X3_18 : o_F RX3 18 3 5 := ⟨RX3, TX3, 7, cf_X3, o_t1 213 rfl rfl, by decide⟩
set_option maxRecDepth 20000 in
theorem fp_X3_18 : o_FP RX3 18 3 5 true := ⟨RX3, TX3, 7, cf_X3, o_t1 213 rfl rfl, by decide, rfl, fun _ => rfl⟩
set_option maxRecDepth 20000 in
theorem f_X3_21 : o_F RX3 21 3 6 := ⟨RX3, TX3, 7, cf_X3, o_t1 215 rfl rfl, by decide⟩
set_option maxRecDepth 20000 in
theorem fp_X3_21 : o_FP RX3 21 3 6 true := ⟨RX3, TX3, 7, cf_X3, o_t1 215 rfl rfl, by decide, rfl, fun _ => rfl⟩
set_option maxRecDepth 20000 in
theorem f_X3_24 : o_F RX3 24 3 0 := ⟨RX3, TX3, 7, cf_X3, o_t1 203 rfl rfl, by decide⟩
set_option maxRecDepth 20000 in
theorem fp_X3_24 : o_FP RX3 24 3 0 false := ⟨RX3, TX3, 7, cf_X3, o_t1 203 rfl rfl, by decide, rfl, fun h => absurd h (by decide)⟩
set_option maxRecDepth 20000 in
theorem f_X3_28 : o_F RX3 28 3 1 := ⟨RX3, TX3, 7, cf_X3, o_t1 205 rfl rfl, by decide⟩
set_option maxRecDepth 20000 in
theorem fp_X3_28 : o_FP RX3 28 3 1 false := ⟨RX3, TX3, 7, cf_X3, o_t1 205 rfl rfl, by decide, rfl, fun h => absurd h (by decide)⟩
set_option maxRecDepth 20000 in
theorem f_X3_31 : o_F RX3 31 3 2 := ⟨RX3, TX3, 7, cf_X3, o_t1 207 rfl rfl, by decide⟩
set_option maxRecDepth 20000 in
theorem fp_X3_31 : o_FP RX3 31 3 2 false := ⟨RX3, TX3, 7, cf_X3, o_t1 207 rfl rfl, by decide, rfl, fun h => absurd h (by decide)⟩
set_option maxRecDepth 20000 in
theorem f_X3_34 : o_F RX3 34 4 2 := ⟨RX4, TX4, 11, cf_X4, o_t1 48 rfl rfl, by decide⟩
set_option maxRecDepth 20000 in
theorem fp_X3_34 : o_FP RX3 34 4 2 false := ⟨RX4, TX4, 11, cf_X4, o_t1 48 rfl rfl, by decide, rfl, fun h => absurd h (by decide)⟩
set_option maxRecDepth 20000 in
theorem f_X3_39 : o_F RX3 39 4 3 := ⟨RX4, TX4, 11, cf_X4, o_t1 52 rfl rfl, by decide⟩
set_option maxRecDepth 20000 in
theorem f_X3_53 : o_F RX3 53 4 4 := ⟨RX4, TX4, 11, cf_X4, o_t1 56 rfl rfl, by decide⟩
set_option maxRecDepth 20000 in
theorem f_X4_9 : o_F RX4 9 4 1 := ⟨RX4, TX4, 11, cf_X4, o_t1 44 rfl rfl, by decide⟩
set_option maxRecDepth 20000 in
theorem fp_X4_9 : o_FP RX4 9 4 1 false := ⟨RX4, TX4, 11, cf_X4, o_t1 44 rfl rfl, by decide, rfl, fun h => absurd h (by decide)⟩
set_option maxRecDepth 20000 in
theorem f_X4_15 : o_F RX4 15 4 3 := ⟨RX4, TX4, 11, cf_X4, o_t1 51 rfl rfl, by decide⟩
set_option maxRecDepth 20000 in
theorem fp_X4_15 : o_FP RX4 15 4 3 true := ⟨RX4, TX4, 11, cf_X4, o_t1 51 rfl rfl, by decide, rfl, fun _ => rfl⟩
set_option maxRecDepth 20000 in
theorem f_X4_19 : o_F RX4 19 4 4 := ⟨RX4, TX4, 11, cf_X4, o_t1 55 rfl rfl, by decide⟩
set_option maxRecDepth 20000 in
theorem fp_X4_19 : o_FP RX4 19 4 4 true := ⟨RX4, TX4, 11, cf_X4, o_t1 55 rfl rfl, by decide, rfl, fun _ => rfl⟩
set_option maxRecDepth 20000 in
theorem f_X4_22 : o_F RX4 22 4 5 := ⟨RX4, TX4, 11, cf_X4, o_t1 59 rfl rfl, by decide⟩
set_option maxRecDepth 20000 in
theorem fp_X4_22 : o_FP RX4 22 4 5 true := ⟨RX4, TX4, 11, cf_X4, o_t1 59 rfl rfl, by decide, rfl, fun _ => rfl⟩
set_option maxRecDepth 20000 in
theorem f_X4_25 : o_F RX4 25 4 6 := ⟨RX4, TX4, 11, cf_X4, o_t1 61 rfl rfl, by decide⟩
set_option maxRecDepth 20000 in
theorem fp_X4_25 : o_FP RX4 25 4 6 true := ⟨RX4, TX4, 11, cf_X4, o_t1 61 rfl rfl, by decide, rfl, fun _ => rfl⟩
set_option maxRecDepth 20000 in
theorem f_X4_30 : o_F RX4 30 4 7 := ⟨RX4, TX4, 11, cf_X4, o_t1 63 rfl rfl, by decide⟩
set_option maxRecDepth 20000 in
theorem fp_X4_30 : o_FP RX4 30 4 7 true := ⟨RX4, TX4, 11, cf_X4, o_t1 63 rfl rfl, by decide, rfl, fun _ => rfl⟩
set_option maxRecDepth 20000 in
theorem f_X4_33 : o_F RX4 33 4 8 := ⟨RX4, TX4, 11, cf_X4, o_t1 66 rfl rfl, by decide⟩
set_option maxRecDepth 20000 in
theorem fp_X4_33 : o_FP RX4 33 4 8 true := ⟨RX4, TX4, 11, cf_X4, o_t1 66 rfl rfl, by decide, rfl, fun _ => rfl⟩
set_option maxRecDepth 20000 in
theorem f_X4_36 : o_F RX4 36 4 9 := ⟨RX4, TX4, 11, cf_X4, o_t1 69 rfl rfl, by decide⟩
set_option maxRecDepth 20000 in
theorem fp_X4_36 : o_FP RX4 36 4 9 true := ⟨RX4, TX4, 11, cf_X4, o_t1 69 rfl rfl, by decide, rfl, fun _ => rfl⟩
set_option maxRecDepth 20000 in
theorem f_X4_39 : o_F RX4 39 4 10 := ⟨RX4, TX4, 11, cf_X4, o_t1 71 rfl rfl, by decide⟩
set_option maxRecDepth 20000 in
theorem fp_X4_39 : o_FP RX4 39 4 10 true := ⟨RX4, TX4, 11, cf_X4, o_t1 71 rfl rfl, by decide, rfl, fun _ => rfl⟩
set_option maxRecDepth 20000 in
theorem f_X4_42 : o_F RX4 42 4 0 := ⟨RX4, TX4, 11, cf_X4, o_t1 41 rfl rfl, by decide⟩
set_option maxRecDepth 20000 in
theorem fp_X4_42 : o_FP RX4 42 4 0 false := ⟨RX4, TX4, 11, cf_X4, o_t1 41 rfl rfl, by decide, rfl, fun h => absurd h (by decide)⟩
set_option maxRecDepth 20000 in
theorem f_X4_45 : o_F RX4 45 4 2 := ⟨RX4, TX4, 11, cf_X4, o_t1 47 rfl rfl, by decide⟩
set_option maxRecDepth 20000 in
theorem fp_X4_45 : o_FP RX4 45 4 2 false := ⟨RX4, TX4, 11, cf_X4, o_t1 47 rfl rfl, by decide, rfl, fun h => absurd h (by decide)⟩
set_option maxRecDepth 20000 in
theorem f_X5_13 : o_F RX5 13 5 0 := ⟨RX5, TX5, 3, cf_X5, o_t1 186 rfl rfl, by decide⟩
set_option maxRecDepth 20000 in
theorem fp_X5_13 : o_FP RX5 13 5 0 true := ⟨RX5, TX5, 3, cf_X5, o_t1 186 rfl rfl, by decide, rfl, fun _ => rfl⟩
set_option maxRecDepth 20000 in
theorem f_X5_26 : o_F RX5 26 5 2 := ⟨RX5, TX5, 3, cf_X5, o_t1 188 rfl rfl, by decide⟩
set_option maxRecDepth 20000 in
theorem fp_X5_26 : o_FP RX5 26 5 2 false := ⟨RX5, TX5, 3, cf_X5, o_t1 188 rfl rfl, by decide, rfl, fun h => absurd h (by decide)⟩
set_option maxRecDepth 20000 in
theorem f_X5_30 : o_F RX5 30 5 1 := ⟨RX5, TX5, 3, cf_X5, o_t1 187 rfl rfl, by decide⟩
set_option maxRecDepth 20000 in
theorem fp_X5_30 : o_FP RX5 30 5 1 false := ⟨RX5, TX5, 3, cf_X5, o_t1 187 rfl rfl, by decide, rfl, fun h => absurd h (by decide)⟩
set_option maxRecDepth 20000 in
theorem f_X6_11 : o_F RX6 11 6 1 := ⟨RX6, TX6, 8, cf_X6, o_t1 146 rfl rfl, by decide⟩
set_option maxRecDepth 20000 in
theorem fp_X6_11 : o_FP RX6 11 6 1 true := ⟨RX6, TX6, 8, cf_X6, o_t1 146 rfl rfl, by decide, rfl, fun _ => rfl⟩
set_option maxRecDepth 20000 in
theorem f_X6_18 : o_F RX6 18 6 2 := ⟨RX6, TX6, 8, cf_X6, o_t1 148 rfl rfl, by decide⟩
set_option maxRecDepth 20000 in
theorem fp_X6_18 : o_FP RX6 18 6 2 true := ⟨RX6, TX6, 8, cf_X6, o_t1 148 rfl rfl, by decide, rfl, fun _ => rfl⟩
set_option maxRecDepth 20000 in
theorem f_X6_22 : o_F RX6 22 6 3 := ⟨RX6, TX6, 8, cf_X6, o_t1 150 rfl rfl, by decide⟩
set_option maxRecDepth 20000 in
theorem fp_X6_22 : o_FP RX6 22 6 3 true := ⟨RX6, TX6, 8, cf_X6, o_t1 150 rfl rfl, by decide, rfl, fun _ => rfl⟩
set_option maxRecDepth 20000 in
theorem f_X6_25 : o_F RX6 25 6 4 := ⟨RX6, TX6, 8, cf_X6, o_t1 152 rfl rfl, by decide⟩
set_option maxRecDepth 20000 in
theorem fp_X6_25 : o_FP RX6 25 6 4 true := ⟨RX6, TX6, 8, cf_X6, o_t1 152 rfl rfl, by decide, rfl, fun _ => rfl⟩
set_option maxRecDepth 20000 in
theorem f_X6_30 : o_F RX6 30 6 6 := ⟨RX6, TX6, 8, cf_X6, o_t1 156 rfl rfl, by decide⟩
set_option maxRecDepth 20000 in
theorem fp_X6_30 : o_FP RX6 30 6 6 true := ⟨RX6, TX6, 8, cf_X6, o_t1 156 rfl rfl, by decide, rfl, fun _ => rfl⟩
set_option maxRecDepth 20000 in
theorem f_X6_35 : o_F RX6 35 6 0 := ⟨RX6, TX6, 8, cf_X6, o_t1 144 rfl rfl, by decide⟩
set_option maxRecDepth 20000 in
theorem fp_X6_35 : o_FP RX6 35 6 0 false := ⟨RX6, TX6, 8, cf_X6, o_t1 144 rfl rfl, by decide, rfl, fun h => absurd h (by decide)⟩
set_option maxRecDepth 20000 in
theorem f_X6_49 : o_F RX6 49 6 5 := ⟨RX6, TX6, 8, cf_X6, o_t1 154 rfl rfl, by decide⟩
set_option maxRecDepth 20000 in
theorem fp_X6_49 : o_FP RX6 49 6 5 false := ⟨RX6, TX6, 8, cf_X6, o_t1 154 rfl rfl, by decide, rfl, fun h => absurd h (by decide)⟩
set_option maxRecDepth 20000 in
theorem f_X6_55 : o_F RX6 55 6 7 := ⟨RX6, TX6, 8, cf_X6, o_t1 158 rfl rfl, by decide⟩
set_option maxRecDepth 20000 in
theorem fp_X6_55 : o_FP RX6 55 6 7 false := ⟨RX6, TX6, 8, cf_X6, o_t1 158 rfl rfl, by decide, rfl, fun h => absurd h (by decide)⟩
set_option maxRecDepth 20000 in
theorem f_X6_58 : o_F RX6 58 4 0 := ⟨RX4, TX4, 11, cf_X4, o_t1 42 rfl rfl, by decide⟩
set_option maxRecDepth 20000 in
theorem fp_X6_58 : o_FP RX6 58 4 0 false := ⟨RX4, TX4, 11, cf_X4, o_t1 42 rfl rfl, by decide, rfl, fun h => absurd h (by decide)⟩
set_option maxRecDepth 20000 in
theorem f_X6_69 : o_F RX6 69 4 1 := ⟨RX4, TX4, 11, cf_X4, o_t1 45 rfl rfl, by decide⟩
set_option maxRecDepth 20000 in
theorem fp_X6_69 : o_FP RX6 69 4 1 false := ⟨RX4, TX4, 11, cf_X4, o_t1 45 rfl rfl, by decide, rfl, fun h => absurd h (by decide)⟩
set_option maxRecDepth 20000 in
theorem f_X6_76 : o_F RX6 76 4 8 := ⟨RX4, TX4, 11, cf_X4, o_t1 67 rfl rfl, by decide⟩
set_option maxRecDepth 20000 in
theorem f_X6_83 : o_F RX6 83 7 0 := ⟨RX7, TX7, 8, cf_X7, o_t1 105 rfl rfl, by decide⟩
set_option maxRecDepth 20000 in
theorem fp_X6_83 : o_FP RX6 83 7 0 false := ⟨RX7, TX7, 8, cf_X7, o_t1 105 rfl rfl, by decide, rfl, fun h => absurd h (by decide)⟩
set_option maxRecDepth 20000 in
theorem f_X6_86 : o_F RX6 86 7 1 := ⟨RX7, TX7, 8, cf_X7, o_t1 108 rfl rfl, by decide⟩
set_option maxRecDepth 20000 in
theorem fp_X6_86 : o_FP RX6 86 7 1 false := ⟨RX7, TX7, 8, cf_X7, o_t1 108 rfl rfl, by decide, rfl, fun h => absurd h (by decide)⟩
set_option maxRecDepth 20000 in
theorem f_X6_89 : o_F RX6 89 7 2 := ⟨RX7, TX7, 8, cf_X7, o_t1 111 rfl rfl, by decide⟩
set_option maxRecDepth 20000 in
theorem fp_X6_89 : o_FP RX6 89 7 2 false := ⟨RX7, TX7, 8, cf_X7, o_t1 111 rfl rfl, by decide, rfl, fun h => absurd h (by decide)⟩
set_option maxRecDepth 20000 in
theorem f_X6_92 : o_F RX6 92 7 3 := ⟨RX7, TX7, 8, cf_X7, o_t1 114 rfl rfl, by decide⟩
set_option maxRecDepth 20000 in
theorem fp_X6_92 : o_FP RX6 92 7 3 false := ⟨RX7, TX7, 8, cf_X7, o_t1 114 rfl rfl, by decide, rfl, fun h => absurd h (by decide)⟩
set_option maxRecDepth 20000 in
theorem f_X6_95 : o_F RX6 95 7 4 := ⟨RX7, TX7, 8, cf_X7, o_t1 117 rfl rfl, by decide⟩
set_option maxRecDepth 20000 in
theorem fp_X6_95 : o_FP RX6 95 7 4 false := ⟨RX7, TX7, 8, cf_X7, o_t1 117 rfl rfl, by decide, rfl, fun h => absurd h (by decide)⟩
set_option maxRecDepth 20000 in
theorem f_X6_98 : o_F RX6 98 7 5 := ⟨RX7, TX7, 8, cf_X7, o_t1 120 rfl rfl, by decide⟩
set_option maxRecDepth 20000 in
theorem fp_X6_98 : o_FP RX6 98 7 5 false := ⟨RX7, TX7, 8, cf_X7, o_t1 120 rfl rfl, by decide, rfl, fun h => absurd h (by decide)⟩
set_option maxRecDepth 20000 in
theorem f_X6_101 : o_F RX6 101 7 6 := ⟨RX7, TX7, 8, cf_X7, o_t1 122 rfl rfl, by decide⟩
set_option maxRecDepth 20000 in
theorem fp_X6_101 : o_FP RX6 101 7 6 false := ⟨RX7, TX7, 8, cf_X7, o_t1 122 rfl rfl, by decide, rfl, fun h => absurd h (by decide)⟩
set_option maxRecDepth 20000 in
theorem f_X6_104 : o_F RX6 104 7 7 := ⟨RX7, TX7, 8, cf_X7, o_t1 125 rfl rfl, by decide⟩
set_option maxRecDepth 20000 in
theorem fp_X6_104 : o_FP RX6 104 7 7 false := ⟨RX7, TX7, 8, cf_X7, o_t1 125 rfl rfl, by decide, rfl, fun h => absurd h (by decide)⟩
set_option maxRecDepth 20000 in
theorem f_X6_107 : o_F RX6 107 4 9 := ⟨RX4, TX4, 11, cf_X4, o_t1 70 rfl rfl, by decide⟩
set_option maxRecDepth 20000 in
theorem f_X6_119 : o_F RX6 119 4 10 := ⟨RX4, TX4, 11, cf_X4, o_t1 72 rfl rfl, by decide⟩
set_option maxRecDepth 20000 in
theorem f_X7_9 : o_F RX7 9 7 0 := ⟨RX7, TX7, 8, cf_X7, o_t1 104 rfl rfl, by decide⟩
set_option maxRecDepth 20000 in
theorem fp_X7_9 : o_FP RX7 9 7 0 false := ⟨RX7, TX7, 8, cf_X7, o_t1 104 rfl rfl, by decide, rfl, fun h => absurd h (by decide)⟩
set_option maxRecDepth 20000 in
theorem f_X7_15 : o_F RX7 15 7 1 := ⟨RX7, TX7, 8, cf_X7, o_t1 107 rfl rfl, by decide⟩
set_option maxRecDepth 20000 in
theorem fp_X7_15 : o_FP RX7 15 7 1 false := ⟨RX7, TX7, 8, cf_X7, o_t1 107 rfl rfl, by decide, rfl, fun h => absurd h (by decide)⟩
set_option maxRecDepth 20000 in
theorem f_X7_18 : o_F RX7 18 7 2 := ⟨RX7, TX7, 8, cf_X7, o_t1 110 rfl rfl, by decide⟩
set_option maxRecDepth 20000 in
theorem fp_X7_18 : o_FP RX7 18 7 2 false := ⟨RX7, TX7, 8, cf_X7, o_t1 110 rfl rfl, by decide, rfl, fun h => absurd h (by decide)⟩
set_option maxRecDepth 20000 in
theorem f_X7_21 : o_F RX7 21 7 3 := ⟨RX7, TX7, 8, cf_X7, o_t1 113 rfl rfl, by decide⟩
set_option maxRecDepth 20000 in
theorem fp_X7_21 : o_FP RX7 21 7 3 false := ⟨RX7, TX7, 8, cf_X7, o_t1 113 rfl rfl, by decide, rfl, fun h => absurd h (by decide)⟩
set_option maxRecDepth 20000 in
theorem f_X7_24 : o_F RX7 24 7 4 := ⟨RX7, TX7, 8, cf_X7, o_t1 116 rfl rfl, by decide⟩
set_option maxRecDepth 20000 in
theorem fp_X7_24 : o_FP RX7 24 7 4 false := ⟨RX7, TX7, 8, cf_X7, o_t1 116 rfl rfl, by decide, rfl, fun h => absurd h (by decide)⟩
set_option maxRecDepth 20000 in
theorem f_X7_27 : o_F RX7 27 7 5 := ⟨RX7, TX7, 8, cf_X7, o_t1 119 rfl rfl, by decide⟩
set_option maxRecDepth 20000 in
theorem fp_X7_27 : o_FP RX7 27 7 5 false := ⟨RX7, TX7, 8, cf_X7, o_t1 119 rfl rfl, by decide, rfl, fun h => absurd h (by decide)⟩
set_option maxRecDepth 20000 in
theorem f_X7_30 : o_F RX7 30 7 6 := ⟨RX7, TX7, 8, cf_X7, o_t1 121 rfl rfl, by decide⟩
set_option maxRecDepth 20000 in
theorem fp_X7_30 : o_FP RX7 30 7 6 false := ⟨RX7, TX7, 8, cf_X7, o_t1 121 rfl rfl, by decide, rfl, fun h => absurd h (by decide)⟩
set_option maxRecDepth 20000 in
theorem f_X7_33 : o_F RX7 33 7 7 := ⟨RX7, TX7, 8, cf_X7, o_t1 124 rfl rfl, by decide⟩
set_option maxRecDepth 20000 in
theorem fp_X7_33 : o_FP RX7 33 7 7 false := ⟨RX7, TX7, 8, cf_X7, o_t1 124 rfl rfl, by decide, rfl, fun h => absurd h (by decide)⟩
set_option maxRecDepth 20000 in
theorem f_X9_9 : o_F RX9 9 9 0 := ⟨RX9, TX9, 28, cf_X9, o_t5 8 rfl rfl, by decide⟩
set_option maxRecDepth 20000 in
theorem fp_X9_9 : o_FP RX9 9 9 0 true := ⟨RX9, TX9, 28, cf_X9, o_t5 8 rfl rfl, by decide, rfl, fun _ => rfl⟩
set_option maxRecDepth 20000 in
theorem f_X9_13 : o_F RX9 13 9 1 := ⟨RX9, TX9, 28, cf_X9, o_t5 9 rfl rfl, by decide⟩
set_option maxRecDepth 20000 in
theorem fp_X9_13 : o_FP RX9 13 9 1 true := ⟨RX9, TX9, 28, cf_X9, o_t5 9 rfl rfl, by decide, rfl, fun _ => rfl⟩
set_option maxRecDepth 20000 in
theorem f_X9_16 : o_F RX9 16 9 2 := ⟨RX9, TX9, 28, cf_X9, o_t5 10 rfl rfl, by decide⟩
set_option maxRecDepth 20000 in
theorem fp_X9_16 : o_FP RX9 16 9 2 true := ⟨RX9, TX9, 28, cf_X9, o_t5 10 rfl rfl, by decide, rfl, fun _ => rfl⟩
set_option maxRecDepth 20000 in
theorem f_X9_20 : o_F RX9 20 9 3 := ⟨RX9, TX9, 28, cf_X9, o_t5 11 rfl rfl, by decide⟩
set_option maxRecDepth 20000 in
theorem fp_X9_20 : o_FP RX9 20 9 3 true := ⟨RX9, TX9, 28, cf_X9, o_t5 11 rfl rfl, by decide, rfl, fun _ => rfl⟩
set_option maxRecDepth 20000 in
theorem f_X9_23 : o_F RX9 23 9 4 := ⟨RX9, TX9, 28, cf_X9, o_t5 12 rfl rfl, by decide⟩
set_option maxRecDepth 20000 in
theorem fp_X9_23 : o_FP RX9 23 9 4 false := ⟨RX9, TX9, 28, cf_X9, o_t5 12 rfl rfl, by decide, rfl, fun h => absurd h (by decide)⟩
set_option maxRecDepth 20000 in
theorem f_X9_27 : o_F RX9 27 9 5 := ⟨RX9, TX9, 28, cf_X9, o_t5 13 rfl rfl, by decide⟩
set_option maxRecDepth 20000 in
theorem fp_X9_27 : o_FP RX9 27 9 5 false := ⟨RX9, TX9, 28, cf_X9, o_t5 13 rfl rfl, by decide, rfl, fun h => absurd h (by decide)⟩
set_option maxRecDepth 20000 in
theorem f_X9_30 : o_F RX9 30 9 6 := ⟨RX9, TX9, 28, cf_X9, o_t5 14 rfl rfl, by decide⟩
set_option maxRecDepth 20000 in
theorem fp_X9_30 : o_FP RX9 30 9 6 false := ⟨RX9, TX9, 28, cf_X9, o_t5 14 rfl rfl, by decide, rfl, fun h => absurd h (by decide)⟩
set_option maxRecDepth 20000 in
theorem f_X9_34 : o_F RX9 34 9 7 := ⟨RX9, TX9, 28, cf_X9, o_t5 15 rfl rfl, by decide⟩
set_option maxRecDepth 20000 in
theorem fp_X9_34 : o_FP RX9 34 9 7 false := ⟨RX9, TX9, 28, cf_X9, o_t5 15 rfl rfl, by decide, rfl, fun h => absurd h (by decide)⟩
set_option maxRecDepth 20000 in
theorem f_X9_37 : o_F RX9 37 9 8 := ⟨RX9, TX9, 28, cf_X9, o_t5 16 rfl rfl, by decide⟩
set_option maxRecDepth 20000 in
theorem fp_X9_37 : o_FP RX9 37 9 8 true := ⟨RX9, TX9, 28, cf_X9, o_t5 16 rfl rfl, by decide, rfl, fun _ => rfl⟩
set_option maxRecDepth 20000 in
theorem f_X9_40 : o_F RX9 40 9 9 := ⟨RX9, TX9, 28, cf_X9, o_t5 17 rfl rfl, by decide⟩
set_option maxRecDepth 20000 in
theorem fp_X9_40 : o_FP RX9 40 9 9 true := ⟨RX9, TX9, 28, cf_X9, o_t5 17 rfl rfl, by decide, rfl, fun _ => rfl⟩
set_option maxRecDepth 20000 in
theorem f_X9_43 : o_F RX9 43 9 10 := ⟨RX9, TX9, 28, cf_X9, o_t5 18 rfl rfl, by decide⟩
set_option maxRecDepth 20000 in
theorem fp_X9_43 : o_FP RX9 43 9 10 true := ⟨RX9, TX9, 28, cf_X9, o_t5 18 rfl rfl, by decide, rfl, fun _ => rfl⟩
set_option maxRecDepth 20000 in
theorem f_X9_46 : o_F RX9 46 9 11 := ⟨RX9, TX9, 28, cf_X9, o_t5 19 rfl rfl, by decide⟩
set_option maxRecDepth 20000 in
theorem fp_X9_46 : o_FP RX9 46 9 11 true := ⟨RX9, TX9, 28, cf_X9, o_t5 19 rfl rfl, by decide, rfl, fun _ => rfl⟩
set_option maxRecDepth 20000 in
theorem f_X9_49 : o_F RX9 49 9 12 := ⟨RX9, TX9, 28, cf_X9, o_t5 20 rfl rfl, by decide⟩
set_option maxRecDepth 20000 in
theorem fp_X9_49 : o_FP RX9 49 9 12 false := ⟨RX9, TX9, 28, cf_X9, o_t5 20 rfl rfl, by decide, rfl, fun h => absurd h (by decide)⟩
set_option maxRecDepth 20000 in
theorem f_X9_52 : o_F RX9 52 9 13 := ⟨RX9, TX9, 28, cf_X9, o_t5 21 rfl rfl, by decide⟩
set_option maxRecDepth 20000 in
theorem fp_X9_52 : o_FP RX9 52 9 13 true := ⟨RX9, TX9, 28, cf_X9, o_t5 21 rfl rfl, by decide, rfl, fun _ => rfl⟩
set_option maxRecDepth 20000 in
theorem f_X9_55 : o_F RX9 55 9 14 := ⟨RX9, TX9, 28, cf_X9, o_t5 22 rfl rfl, by decide⟩
set_option maxRecDepth 20000 in
theorem fp_X9_55 : o_FP RX9 55 9 14 true := ⟨RX9, TX9, 28, cf_X9, o_t5 22 rfl rfl, by decide, rfl, fun _ => rfl⟩
set_option maxRecDepth 20000 in
theorem f_X9_58 : o_F RX9 58 9 15 := ⟨RX9, TX9, 28, cf_X9, o_t5 23 rfl rfl, by decide⟩
set_option maxRecDepth 20000 in
theorem fp_X9_58 : o_FP RX9 58 9 15 true := ⟨RX9, TX9, 28, cf_X9, o_t5 23 rfl rfl, by decide, rfl, fun _ => rfl⟩
set_option maxRecDepth 20000 in
theorem f_X9_61 : o_F RX9 61 9 16 := ⟨RX9, TX9, 28, cf_X9, o_t5 24 rfl rfl, by decide⟩
set_option maxRecDepth 20000 in
theorem fp_X9_61 : o_FP RX9 61 9 16 true := ⟨RX9, TX9, 28, cf_X9, o_t5 24 rfl rfl, by decide, rfl, fun _ => rfl⟩
set_option maxRecDepth 20000 in
theorem f_X9_64 : o_F RX9 64 9 17 := ⟨RX9, TX9, 28, cf_X9, o_t5 25 rfl rfl, by decide⟩
set_option maxRecDepth 20000 in
theorem fp_X9_64 : o_FP RX9 64 9 17 true := ⟨RX9, TX9, 28, cf_X9, o_t5 25 rfl rfl, by decide, rfl, fun _ => rfl⟩
set_option maxRecDepth 20000 in
theorem f_X9_67 : o_F RX9 67 9 18 := ⟨RX9, TX9, 28, cf_X9, o_t5 26 rfl rfl, by decide⟩
set_option maxRecDepth 20000 in
theorem fp_X9_67 : o_FP RX9 67 9 18 true := ⟨RX9, TX9, 28, cf_X9, o_t5 26 rfl rfl, by decide, rfl, fun _ => rfl⟩
set_option maxRecDepth 20000 in
theorem f_X9_70 : o_F RX9 70 9 19 := ⟨RX9, TX9, 28, cf_X9, o_t5 27 rfl rfl, by decide⟩
set_option maxRecDepth 20000 in
theorem fp_X9_70 : o_FP RX9 70 9 19 true := ⟨RX9, TX9, 28, cf_X9, o_t5 27 rfl rfl, by decide, rfl, fun _ => rfl⟩
set_option maxRecDepth 20000 in
theorem f_X9_73 : o_F RX9 73 9 20 := ⟨RX9, TX9, 28, cf_X9, o_t5 28 rfl rfl, by decide⟩
set_option maxRecDepth 20000 in
theorem fp_X9_73 : o_FP RX9 73 9 20 true := ⟨RX9, TX9, 28, cf_X9, o_t5 28 rfl rfl, by decide, rfl, fun _ => rfl⟩
set_option maxRecDepth 20000 in
theorem f_X9_76 : o_F RX9 76 9 21 := ⟨RX9, TX9, 28, cf_X9, o_t5 29 rfl rfl, by decide⟩
set_option maxRecDepth 20000 in
theorem fp_X9_76 : o_FP RX9 76 9 21 false := ⟨RX9, TX9, 28, cf_X9, o_t5 29 rfl rfl, by decide, rfl, fun h => absurd h (by decide)⟩
set_option maxRecDepth 20000 in
theorem f_X9_79 : o_F RX9 79 9 22 := ⟨RX9, TX9, 28, cf_X9, o_t5 30 rfl rfl, by decide⟩
set_option maxRecDepth 20000 in
theorem fp_X9_79 : o_FP RX9 79 9 22 false := ⟨RX9, TX9, 28, cf_X9, o_t5 30 rfl rfl, by decide, rfl, fun h => absurd h (by decide)⟩
set_option maxRecDepth 20000 in
theorem f_X9_82 : o_F RX9 82 9 23 := ⟨RX9, TX9, 28, cf_X9, o_t5 31 rfl rfl, by decide⟩
set_option maxRecDepth 20000 in
theorem fp_X9_82 : o_FP RX9 82 9 23 false := ⟨RX9, TX9, 28, cf_X9, o_t5 31 rfl rfl, by decide, rfl, fun h => absurd h (by decide)⟩
set_option maxRecDepth 20000 in
theorem f_X9_85 : o_F RX9 85 9 24 := ⟨RX9, TX9, 28, cf_X9, o_t5 32 rfl rfl, by decide⟩
set_option maxRecDepth 20000 in
theorem fp_X9_85 : o_FP RX9 85 9 24 false := ⟨RX9, TX9, 28, cf_X9, o_t5 32 rfl rfl, by decide, rfl, fun h => absurd h (by decide)⟩
set_option maxRecDepth 20000 in
theorem f_X9_88 : o_F RX9 88 9 25 := ⟨RX9, TX9, 28, cf_X9, o_t5 33 rfl rfl, by decide⟩
set_option maxRecDepth 20000 in
theorem fp_X9_88 : o_FP RX9 88 9 25 false := ⟨RX9, TX9, 28, cf_X9, o_t5 33 rfl rfl, by decide, rfl, fun h => absurd h (by decide)⟩
set_option maxRecDepth 20000 in
theorem f_X9_91 : o_F RX9 91 9 26 := ⟨RX9, TX9, 28, cf_X9, o_t5 34 rfl rfl, by decide⟩
set_option maxRecDepth 20000 in
theorem fp_X9_91 : o_FP RX9 91 9 26 false := ⟨RX9, TX9, 28, cf_X9, o_t5 34 rfl rfl, by decide, rfl, fun h => absurd h (by decide)⟩
set_option maxRecDepth 20000 in
theorem f_X9_94 : o_F RX9 94 9 27 := ⟨RX9, TX9, 28, cf_X9, o_t5 35 rfl rfl, by decide⟩
set_option maxRecDepth 20000 in
theorem fp_X9_94 : o_FP RX9 94 9 27 false := ⟨RX9, TX9, 28, cf_X9, o_t5 35 rfl rfl, by decide, rfl, fun h => absurd h (by decide)⟩
set_option maxRecDepth 20000 in
theorem m_X8_9 : o_MI RX8 9 yX6_init cX6_init 2 0 := ⟨⟨o_t1 28 rfl rfl, o_t1 29 rfl rfl, o_t1 2 rfl rfl, o_t1 30 rfl rfl⟩, rfl, by decide, by decide, by decide⟩
set_option maxRecDepth 20000 in
theorem m_X8_21 : o_MI RX8 21 yX5_init cX5_init 2 0 := ⟨⟨o_t1 179 rfl rfl, o_t1 180 rfl rfl, o_t1 5 rfl rfl, o_t1 181 rfl rfl⟩, rfl, by decide, by decide, by decide⟩
set_option maxRecDepth 20000 in
theorem m_X8_28 : o_MI RX8 28 yX3_init cX3_init 1 0 := ⟨⟨o_t1 199 rfl rfl, o_t1 200 rfl rfl, o_t1 6 rfl rfl, o_t1 201 rfl rfl⟩, rfl, by decide, by decide, by decide⟩
set_option maxRecDepth 20000 in
theorem m_X8_46 : o_MI RX8 46 yX1_init cX1_init 1 0 := ⟨⟨o_t2 22 rfl rfl, o_t2 23 rfl rfl, o_t1 8 rfl rfl, o_t2 24 rfl rfl⟩, rfl, by decide, by decide, by decide⟩
set_option maxRecDepth 20000 in
theorem m_X8_49 : o_MI RX8 49 yX2_init cX2_init 1 0 := ⟨⟨o_t2 44 rfl rfl, o_t2 45 rfl rfl, o_t1 9 rfl rfl, o_t2 46 rfl rfl⟩, rfl, by decide, by decide, by decide⟩
set_option maxRecDepth 20000 in
theorem m_X8_68 : o_MS RX8 68 yX8_within cX8_within 3 (some FieldType.boolean) 3 := ⟨⟨o_t2 111 rfl rfl, o_t2 112 rfl rfl, o_t1 1 rfl rfl, o_t2 113 rfl rfl⟩, rfl, by decide, by decide, by decide⟩
set_option maxRecDepth 20000 in
theorem m_X8_72 : o_MV RX8 72 RX6 yX6_hasWork cX6_hasWork 3 (some FieldType.boolean) 1 6 := ⟨⟨o_t2 114 rfl rfl, o_t2 115 rfl rfl, o_t2 116 rfl rfl, o_t1 2 rfl rfl, o_t2 117 rfl rfl⟩, ⟨rfl, by decide, by decide, by decide⟩, TX6, 8, rfl, by decide⟩
set_option maxRecDepth 20000 in
theorem m_X8_79 : o_MV RX8 79 RX5 yX5_keep cX5_keep 2 none 1 5 := ⟨⟨o_t2 118 rfl rfl, o_t2 119 rfl rfl, o_t2 120 rfl rfl, o_t1 5 rfl rfl, o_t2 121 rfl rfl⟩, ⟨rfl, by decide, by decide, by decide⟩, TX5, 3, rfl, by decide⟩
set_option maxRecDepth 20000 in
theorem m_X8_83 : o_MV RX8 83 RX6 yX6_addFirst cX6_addFirst 5 (some FieldType.int) 3 6 := ⟨⟨o_t2 154 rfl rfl, o_t2 155 rfl rfl, o_t2 156 rfl rfl, o_t1 2 rfl rfl, o_t2 157 rfl rfl⟩, ⟨rfl, by decide, by decide, by decide⟩, TX6, 8, rfl, by decide⟩
set_option maxRecDepth 20000 in
theorem m_X8_87 : o_MV RX8 87 RX8 yX8_isEdition cX8_isEdition 2 (some FieldType.boolean) 1 8 := ⟨⟨o_t2 174 rfl rfl, o_t2 176 rfl rfl, o_sel 4 rfl rfl, o_t1 1 rfl rfl, o_t2 177 rfl rfl⟩, ⟨rfl, by decide, by decide, by decide⟩, TX8, 11, rfl, by decide⟩
set_option maxRecDepth 20000 in
theorem m_X8_90 : o_MV RX8 90 RX6 yX6_addCopy cX6_addCopy 3 (some FieldType.int) 1 6 := ⟨⟨o_t2 178 rfl rfl, o_t2 179 rfl rfl, o_t2 180 rfl rfl, o_t1 2 rfl rfl, o_t2 181 rfl rfl⟩, ⟨rfl, by decide, by decide, by decide⟩, TX6, 8, rfl, by decide⟩
set_option maxRecDepth 20000 in
theorem m_X8_94 : o_MV RX8 94 RX5 yX5_prepare cX5_prepare 2 none 1 5 := ⟨⟨o_t2 191 rfl rfl, o_t2 123 rfl rfl, o_t2 124 rfl rfl, o_t1 5 rfl rfl, o_t2 125 rfl rfl⟩, ⟨rfl, by decide, by decide, by decide⟩, TX5, 3, rfl, by decide⟩
set_option maxRecDepth 20000 in
theorem m_X8_97 : o_MV RX8 97 RX8 yX8_cutBars cX8_cutBars 5 (some FieldType.int) 3 8 := ⟨⟨o_t2 192 rfl rfl, o_t2 194 rfl rfl, o_sel 5 rfl rfl, o_t1 1 rfl rfl, o_t2 195 rfl rfl⟩, ⟨rfl, by decide, by decide, by decide⟩, TX8, 11, rfl, by decide⟩
set_option maxRecDepth 20000 in
theorem m_X8_100 : o_MV RX8 100 RX8 yX8_settle cX8_settle 2 (some FieldType.int) 1 8 := ⟨⟨o_t2 224 rfl rfl, o_t2 226 rfl rfl, o_sel 9 rfl rfl, o_t1 1 rfl rfl, o_t2 227 rfl rfl⟩, ⟨rfl, by decide, by decide, by decide⟩, TX8, 11, rfl, by decide⟩
set_option maxRecDepth 20000 in
theorem m_X8_103 : o_MV RX8 103 RX8 yX8_isBar cX8_isBar 3 (some FieldType.boolean) 2 8 := ⟨⟨o_t2 196 rfl rfl, o_t2 198 rfl rfl, o_sel 6 rfl rfl, o_t1 1 rfl rfl, o_t2 199 rfl rfl⟩, ⟨rfl, by decide, by decide, by decide⟩, TX8, 11, rfl, by decide⟩
set_option maxRecDepth 20000 in
theorem m_X8_116 : o_MV RX8 116 RX4 yX4_isBought cX4_isBought 1 (some FieldType.boolean) 0 4 := ⟨⟨o_t2 200 rfl rfl, o_t2 201 rfl rfl, o_t2 202 rfl rfl, o_t1 3 rfl rfl, o_t2 203 rfl rfl⟩, ⟨rfl, by decide, by decide, by decide⟩, TX4, 11, rfl, by decide⟩
set_option maxRecDepth 20000 in
theorem m_X8_120 : o_MV RX8 120 RX8 yX8_refuse cX8_refuse 2 (some FieldType.int) 1 8 := ⟨⟨o_t2 212 rfl rfl, o_t2 214 rfl rfl, o_sel 7 rfl rfl, o_t1 1 rfl rfl, o_t2 215 rfl rfl⟩, ⟨rfl, by decide, by decide, by decide⟩, TX8, 11, rfl, by decide⟩
set_option maxRecDepth 20000 in
theorem m_X8_123 : o_MV RX8 123 RX4 yX4_removeBars cX4_removeBars 3 none 2 4 := ⟨⟨o_t2 216 rfl rfl, o_t2 217 rfl rfl, o_t2 218 rfl rfl, o_t1 3 rfl rfl, o_t2 219 rfl rfl⟩, ⟨rfl, by decide, by decide, by decide⟩, TX4, 11, rfl, by decide⟩
set_option maxRecDepth 20000 in
theorem m_X8_127 : o_MV RX8 127 RX8 yX8_insertBars cX8_insertBars 6 (some FieldType.int) 4 8 := ⟨⟨o_t2 236 rfl rfl, o_t2 238 rfl rfl, o_sel 10 rfl rfl, o_t1 1 rfl rfl, o_t2 239 rfl rfl⟩, ⟨rfl, by decide, by decide, by decide⟩, TX8, 11, rfl, by decide⟩
set_option maxRecDepth 20000 in
theorem m_X8_138 : o_MV RX8 138 RX4 yX4_addBars cX4_addBars 5 none 4 4 := ⟨⟨o_t3 0 rfl rfl, o_t3 1 rfl rfl, o_t3 2 rfl rfl, o_t1 3 rfl rfl, o_t3 3 rfl rfl⟩, ⟨rfl, by decide, by decide, by decide⟩, TX4, 11, rfl, by decide⟩
set_option maxRecDepth 20000 in
theorem m_X8_142 : o_MV RX8 142 RX8 yX8_reworkBar cX8_reworkBar 5 (some FieldType.int) 3 8 := ⟨⟨o_t3 8 rfl rfl, o_t3 10 rfl rfl, o_sel 11 rfl rfl, o_t1 1 rfl rfl, o_t3 11 rfl rfl⟩, ⟨rfl, by decide, by decide, by decide⟩, TX8, 11, rfl, by decide⟩
set_option maxRecDepth 20000 in
theorem m_X8_157 : o_MV RX8 157 RX6 yX6_copiesOfModel cX6_copiesOfModel 4 (some FieldType.int) 1 6 := ⟨⟨o_t3 16 rfl rfl, o_t3 17 rfl rfl, o_t3 18 rfl rfl, o_t1 2 rfl rfl, o_t3 19 rfl rfl⟩, ⟨rfl, by decide, by decide, by decide⟩, TX6, 8, rfl, by decide⟩
set_option maxRecDepth 20000 in
theorem m_X8_160 : o_MV RX8 160 RX4 yX4_copiesInAll cX4_copiesInAll 4 (some FieldType.int) 1 4 := ⟨⟨o_t3 20 rfl rfl, o_t2 205 rfl rfl, o_t2 206 rfl rfl, o_t1 3 rfl rfl, o_t2 207 rfl rfl⟩, ⟨rfl, by decide, by decide, by decide⟩, TX4, 11, rfl, by decide⟩
set_option maxRecDepth 20000 in
theorem m_X8_163 : o_MV RX8 163 RX4 yX4_bowingsInAll cX4_bowingsInAll 3 (some FieldType.int) 0 4 := ⟨⟨o_t3 21 rfl rfl, o_t3 22 rfl rfl, o_t3 23 rfl rfl, o_t1 3 rfl rfl, o_t3 24 rfl rfl⟩, ⟨rfl, by decide, by decide, by decide⟩, TX4, 11, rfl, by decide⟩
set_option maxRecDepth 20000 in
theorem m_X8_167 : o_MV RX8 167 RX4 yX4_ownTempos cX4_ownTempos 1 (some FieldType.int) 0 4 := ⟨⟨o_t3 29 rfl rfl, o_t3 30 rfl rfl, o_t3 31 rfl rfl, o_t1 3 rfl rfl, o_t3 32 rfl rfl⟩, ⟨rfl, by decide, by decide, by decide⟩, TX4, 11, rfl, by decide⟩
set_option maxRecDepth 20000 in
theorem m_X8_173 : o_MV RX8 173 RX4 yX4_ownTempo cX4_ownTempo 2 (some FieldType.int) 1 4 := ⟨⟨o_t3 37 rfl rfl, o_t3 38 rfl rfl, o_t3 39 rfl rfl, o_t1 3 rfl rfl, o_t3 40 rfl rfl⟩, ⟨rfl, by decide, by decide, by decide⟩, TX4, 11, rfl, by decide⟩
set_option maxRecDepth 20000 in
theorem m_X8_176 : o_MV RX8 176 RX4 yX4_countingTempo cX4_countingTempo 3 (some FieldType.int) 1 4 := ⟨⟨o_t3 41 rfl rfl, o_t3 42 rfl rfl, o_t3 43 rfl rfl, o_t1 3 rfl rfl, o_t3 44 rfl rfl⟩, ⟨rfl, by decide, by decide, by decide⟩, TX4, 11, rfl, by decide⟩
set_option maxRecDepth 20000 in
theorem m_X8_179 : o_MV RX8 179 RX8 yX8_areOfOneWork cX8_areOfOneWork 3 (some FieldType.boolean) 2 8 := ⟨⟨o_t3 49 rfl rfl, o_t3 51 rfl rfl, o_sel 13 rfl rfl, o_t1 1 rfl rfl, o_t3 52 rfl rfl⟩, ⟨rfl, by decide, by decide, by decide⟩, TX8, 11, rfl, by decide⟩
set_option maxRecDepth 20000 in
theorem m_X8_182 : o_MV RX8 182 RX4 yX4_barWith cX4_barWith 4 (some FieldType.int) 2 4 := ⟨⟨o_t3 53 rfl rfl, o_t3 54 rfl rfl, o_t3 55 rfl rfl, o_t1 3 rfl rfl, o_t3 56 rfl rfl⟩, ⟨rfl, by decide, by decide, by decide⟩, TX4, 11, rfl, by decide⟩
set_option maxRecDepth 20000 in
theorem m_X8_186 : o_MV RX8 186 RX3 yX3_trace cX3_trace 6 none 2 3 := ⟨⟨o_t3 61 rfl rfl, o_t3 62 rfl rfl, o_t3 63 rfl rfl, o_t1 6 rfl rfl, o_t3 64 rfl rfl⟩, ⟨rfl, by decide, by decide, by decide⟩, TX3, 7, rfl, by decide⟩
set_option maxRecDepth 20000 in
theorem m_X8_211 : o_MV RX8 211 RX8 yX8_setTempo cX8_setTempo 5 (some FieldType.int) 3 8 := ⟨⟨o_t3 90 rfl rfl, o_t3 92 rfl rfl, o_sel 18 rfl rfl, o_t1 1 rfl rfl, o_t3 93 rfl rfl⟩, ⟨rfl, by decide, by decide, by decide⟩, TX8, 11, rfl, by decide⟩
set_option maxRecDepth 20000 in
theorem m_X8_217 : o_MV RX8 217 RX4 yX4_duration cX4_duration 6 (some FieldType.float) 2 4 := ⟨⟨o_t3 98 rfl rfl, o_t3 99 rfl rfl, o_t3 100 rfl rfl, o_t1 3 rfl rfl, o_t3 101 rfl rfl⟩, ⟨rfl, by decide, by decide, by decide⟩, TX4, 11, rfl, by decide⟩
set_option maxRecDepth 20000 in
theorem m_X8_221 : o_MS RX8 221 yX8_bitsOf cX8_bitsOf 4 (some FieldType.int) 1 := ⟨⟨o_t3 108 rfl rfl, o_t3 109 rfl rfl, o_t1 1 rfl rfl, o_t3 110 rfl rfl⟩, rfl, by decide, by decide, by decide⟩
set_option maxRecDepth 20000 in
theorem m_X8_225 : o_MV RX8 225 RX4 yX4_wholeDuration cX4_wholeDuration 1 (some FieldType.float) 0 4 := ⟨⟨o_t3 117 rfl rfl, o_t3 118 rfl rfl, o_t3 119 rfl rfl, o_t1 3 rfl rfl, o_t3 120 rfl rfl⟩, ⟨rfl, by decide, by decide, by decide⟩, TX4, 11, rfl, by decide⟩
set_option maxRecDepth 20000 in
theorem m_X8_229 : o_MV RX8 229 RX4 yX4_firstBarBeyond cX4_firstBarBeyond 5 (some FieldType.int) 1 4 := ⟨⟨o_t3 126 rfl rfl, o_t3 127 rfl rfl, o_t3 128 rfl rfl, o_t1 3 rfl rfl, o_t3 129 rfl rfl⟩, ⟨rfl, by decide, by decide, by decide⟩, TX4, 11, rfl, by decide⟩
set_option maxRecDepth 20000 in
theorem m_X8_232 : o_MV RX8 232 RX4 yX4_beatsInAll cX4_beatsInAll 3 (some FieldType.int) 0 4 := ⟨⟨o_t3 134 rfl rfl, o_t3 135 rfl rfl, o_t3 136 rfl rfl, o_t1 3 rfl rfl, o_t3 137 rfl rfl⟩, ⟨rfl, by decide, by decide, by decide⟩, TX4, 11, rfl, by decide⟩
set_option maxRecDepth 20000 in
theorem m_X8_238 : o_MS RX8 238 yX8_isInstrument cX8_isInstrument 1 (some FieldType.boolean) 1 := ⟨⟨o_t3 143 rfl rfl, o_t3 144 rfl rfl, o_t1 1 rfl rfl, o_t3 145 rfl rfl⟩, rfl, by decide, by decide, by decide⟩
set_option maxRecDepth 20000 in
theorem m_X8_244 : o_MV RX8 244 RX6 yX6_desks cX6_desks 2 (some FieldType.int) 1 6 := ⟨⟨o_t3 150 rfl rfl, o_t3 151 rfl rfl, o_t3 152 rfl rfl, o_t1 2 rfl rfl, o_t3 153 rfl rfl⟩, ⟨rfl, by decide, by decide, by decide⟩, TX6, 8, rfl, by decide⟩
set_option maxRecDepth 20000 in
theorem m_X8_247 : o_MV RX8 247 RX4 yX4_copies cX4_copies 3 (some FieldType.int) 2 4 := ⟨⟨o_t3 158 rfl rfl, o_t2 209 rfl rfl, o_t2 210 rfl rfl, o_t1 3 rfl rfl, o_t2 211 rfl rfl⟩, ⟨rfl, by decide, by decide, by decide⟩, TX4, 11, rfl, by decide⟩
set_option maxRecDepth 20000 in
theorem m_X8_253 : o_MV RX8 253 RX8 yX8_setBowing cX8_setBowing 7 (some FieldType.int) 4 8 := ⟨⟨o_t3 167 rfl rfl, o_t3 169 rfl rfl, o_sel 19 rfl rfl, o_t1 1 rfl rfl, o_t3 170 rfl rfl⟩, ⟨rfl, by decide, by decide, by decide⟩, TX8, 11, rfl, by decide⟩
set_option maxRecDepth 20000 in
theorem m_X8_256 : o_MS RX8 256 yX8_isString cX8_isString 1 (some FieldType.boolean) 1 := ⟨⟨o_t3 171 rfl rfl, o_t3 172 rfl rfl, o_t1 1 rfl rfl, o_t3 173 rfl rfl⟩, rfl, by decide, by decide, by decide⟩
set_option maxRecDepth 20000 in
theorem m_X8_263 : o_MV RX8 263 RX0 yX0_copyRow cX0_copyRow 6 none 4 0 := ⟨⟨o_t3 182 rfl rfl, o_t3 183 rfl rfl, o_t3 184 rfl rfl, o_t1 7 rfl rfl, o_t3 185 rfl rfl⟩, ⟨rfl, by decide, by decide, by decide⟩, TX0, 5, rfl, by decide⟩
set_option maxRecDepth 20000 in
theorem m_X8_282 : o_MV RX8 282 RX8 yX8_lendPart cX8_lendPart 6 (some FieldType.int) 5 8 := ⟨⟨o_t3 199 rfl rfl, o_t3 201 rfl rfl, o_sel 21 rfl rfl, o_t1 1 rfl rfl, o_t3 202 rfl rfl⟩, ⟨rfl, by decide, by decide, by decide⟩, TX8, 11, rfl, by decide⟩
set_option maxRecDepth 20000 in
theorem m_X8_286 : o_MS RX8 286 yX8_isBorrower cX8_isBorrower 1 (some FieldType.boolean) 1 := ⟨⟨o_t3 203 rfl rfl, o_t3 204 rfl rfl, o_t1 1 rfl rfl, o_t3 205 rfl rfl⟩, rfl, by decide, by decide, by decide⟩
set_option maxRecDepth 20000 in
theorem m_X8_289 : o_MV RX8 289 RX6 yX6_sumOfLoans cX6_sumOfLoans 5 (some FieldType.int) 2 6 := ⟨⟨o_t3 206 rfl rfl, o_t3 207 rfl rfl, o_t3 208 rfl rfl, o_t1 2 rfl rfl, o_t3 209 rfl rfl⟩, ⟨rfl, by decide, by decide, by decide⟩, TX6, 8, rfl, by decide⟩
set_option maxRecDepth 20000 in
theorem m_X8_295 : o_MV RX8 295 RX6 yX6_addLoan cX6_addLoan 8 (some FieldType.int) 5 6 := ⟨⟨o_t3 218 rfl rfl, o_t3 219 rfl rfl, o_t3 220 rfl rfl, o_t1 2 rfl rfl, o_t3 221 rfl rfl⟩, ⟨rfl, by decide, by decide, by decide⟩, TX6, 8, rfl, by decide⟩
set_option maxRecDepth 20000 in
theorem m_X8_298 : o_MV RX8 298 RX6 yX6_instrumentsWithPlayers cX6_instrumentsWithPlayers 3 (some FieldType.int) 0 6 := ⟨⟨o_t3 226 rfl rfl, o_t3 227 rfl rfl, o_t3 228 rfl rfl, o_t1 2 rfl rfl, o_t3 229 rfl rfl⟩, ⟨rfl, by decide, by decide, by decide⟩, TX6, 8, rfl, by decide⟩
set_option maxRecDepth 20000 in
theorem m_X8_301 : o_MV RX8 301 RX6 yX6_hasAllNeeded cX6_hasAllNeeded 3 (some FieldType.boolean) 1 6 := ⟨⟨o_t3 230 rfl rfl, o_t3 231 rfl rfl, o_t3 232 rfl rfl, o_t1 2 rfl rfl, o_t3 233 rfl rfl⟩, ⟨rfl, by decide, by decide, by decide⟩, TX6, 8, rfl, by decide⟩
set_option maxRecDepth 20000 in
theorem m_X8_304 : o_MV RX8 304 RX6 yX6_addLoansOfAllNeeded cX6_addLoansOfAllNeeded 5 none 3 6 := ⟨⟨o_t3 235 rfl rfl, o_t3 236 rfl rfl, o_t3 237 rfl rfl, o_t1 2 rfl rfl, o_t3 238 rfl rfl⟩, ⟨rfl, by decide, by decide, by decide⟩, TX6, 8, rfl, by decide⟩
set_option maxRecDepth 20000 in
theorem m_X8_308 : o_MV RX8 308 RX8 yX8_bringBack cX8_bringBack 4 (some FieldType.int) 3 8 := ⟨⟨o_t4 4 rfl rfl, o_t4 6 rfl rfl, o_sel 22 rfl rfl, o_t1 1 rfl rfl, o_t4 7 rfl rfl⟩, ⟨rfl, by decide, by decide, by decide⟩, TX8, 11, rfl, by decide⟩
set_option maxRecDepth 20000 in
theorem m_X8_311 : o_MV RX8 311 RX8 yX8_isLoan cX8_isLoan 2 (some FieldType.boolean) 1 8 := ⟨⟨o_t4 8 rfl rfl, o_t4 10 rfl rfl, o_sel 23 rfl rfl, o_t1 1 rfl rfl, o_t4 11 rfl rfl⟩, ⟨rfl, by decide, by decide, by decide⟩, TX8, 11, rfl, by decide⟩
set_option maxRecDepth 20000 in
theorem m_X8_323 : o_MV RX8 323 RX6 yX6_takeBack cX6_takeBack 8 (some FieldType.int) 3 6 := ⟨⟨o_t4 12 rfl rfl, o_t4 13 rfl rfl, o_t4 14 rfl rfl, o_t1 2 rfl rfl, o_t4 15 rfl rfl⟩, ⟨rfl, by decide, by decide, by decide⟩, TX6, 8, rfl, by decide⟩
set_option maxRecDepth 20000 in
theorem m_X8_347 : o_MV RX8 347 RX7 yX7_isOverdue cX7_isOverdue 2 (some FieldType.boolean) 1 7 := ⟨⟨o_t4 26 rfl rfl, o_t3 215 rfl rfl, o_t3 216 rfl rfl, o_t1 4 rfl rfl, o_t3 217 rfl rfl⟩, ⟨rfl, by decide, by decide, by decide⟩, TX7, 8, rfl, by decide⟩
set_option maxRecDepth 20000 in
theorem m_X8_350 : o_MV RX8 350 RX6 yX6_overdueLoanAt cX6_overdueLoanAt 3 (some FieldType.int) 1 6 := ⟨⟨o_t4 31 rfl rfl, o_t4 32 rfl rfl, o_t4 33 rfl rfl, o_t1 2 rfl rfl, o_t4 34 rfl rfl⟩, ⟨rfl, by decide, by decide, by decide⟩, TX6, 8, rfl, by decide⟩
set_option maxRecDepth 20000 in
theorem m_X8_353 : o_MS RX8 353 yX8_isBox cX8_isBox 1 (some FieldType.boolean) 1 := ⟨⟨o_t4 52 rfl rfl, o_t4 53 rfl rfl, o_t1 1 rfl rfl, o_t4 54 rfl rfl⟩, rfl, by decide, by decide, by decide⟩
set_option maxRecDepth 20000 in
theorem m_X8_356 : o_MV RX8 356 RX1 yX1_things cX1_things 3 (some FieldType.int) 0 1 := ⟨⟨o_t4 55 rfl rfl, o_t4 56 rfl rfl, o_t4 57 rfl rfl, o_t1 8 rfl rfl, o_t4 58 rfl rfl⟩, ⟨rfl, by decide, by decide, by decide⟩, TX1, 4, rfl, by decide⟩
set_option maxRecDepth 20000 in
theorem m_X8_359 : o_MV RX8 359 RX1 yX1_makeAnew cX1_makeAnew 4 none 2 1 := ⟨⟨o_t4 63 rfl rfl, o_t4 64 rfl rfl, o_t4 65 rfl rfl, o_t1 8 rfl rfl, o_t4 66 rfl rfl⟩, ⟨rfl, by decide, by decide, by decide⟩, TX1, 4, rfl, by decide⟩
set_option maxRecDepth 20000 in
theorem m_X8_362 : o_MV RX8 362 RX8 yX8_isPlace cX8_isPlace 3 (some FieldType.boolean) 2 8 := ⟨⟨o_t4 71 rfl rfl, o_t4 73 rfl rfl, o_sel 25 rfl rfl, o_t1 1 rfl rfl, o_t4 74 rfl rfl⟩, ⟨rfl, by decide, by decide, by decide⟩, TX8, 11, rfl, by decide⟩
set_option maxRecDepth 20000 in
theorem m_X8_365 : o_MV RX8 365 RX1 yX1_takes cX1_takes 2 (some FieldType.boolean) 1 1 := ⟨⟨o_t4 75 rfl rfl, o_t4 76 rfl rfl, o_t4 77 rfl rfl, o_t1 8 rfl rfl, o_t4 78 rfl rfl⟩, ⟨rfl, by decide, by decide, by decide⟩, TX1, 4, rfl, by decide⟩
set_option maxRecDepth 20000 in
theorem m_X8_368 : o_MV RX8 368 RX1 yX1_isEmptyAt cX1_isEmptyAt 2 (some FieldType.boolean) 1 1 := ⟨⟨o_t4 80 rfl rfl, o_t4 60 rfl rfl, o_t4 61 rfl rfl, o_t1 8 rfl rfl, o_t4 62 rfl rfl⟩, ⟨rfl, by decide, by decide, by decide⟩, TX1, 4, rfl, by decide⟩
set_option maxRecDepth 20000 in
theorem m_X8_376 : o_MV RX8 376 RX1 yX1_becomeLike cX1_becomeLike 2 none 1 1 := ⟨⟨o_t4 89 rfl rfl, o_t4 90 rfl rfl, o_t4 91 rfl rfl, o_t1 8 rfl rfl, o_t4 92 rfl rfl⟩, ⟨rfl, by decide, by decide, by decide⟩, TX1, 4, rfl, by decide⟩
set_option maxRecDepth 20000 in
theorem m_X8_383 : o_MV RX8 383 RX2 yX2_add cX2_add 2 none 1 2 := ⟨⟨o_t4 98 rfl rfl, o_t4 99 rfl rfl, o_t4 100 rfl rfl, o_t1 9 rfl rfl, o_t4 101 rfl rfl⟩, ⟨rfl, by decide, by decide, by decide⟩, TX2, 6, rfl, by decide⟩
set_option maxRecDepth 20000 in
theorem m_X8_387 : o_MV RX8 387 RX2 yX2_parse cX2_parse 2 (some FieldType.int) 0 2 := ⟨⟨o_t4 106 rfl rfl, o_t4 107 rfl rfl, o_t4 108 rfl rfl, o_t1 9 rfl rfl, o_t4 109 rfl rfl⟩, ⟨rfl, by decide, by decide, by decide⟩, TX2, 6, rfl, by decide⟩
set_option maxRecDepth 20000 in
theorem m_X8_393 : o_MV RX8 393 RX8 yX8_carryOut cX8_carryOut 3 (some FieldType.int) 1 8 := ⟨⟨o_t4 185 rfl rfl, o_t4 187 rfl rfl, o_sel 29 rfl rfl, o_t1 1 rfl rfl, o_t4 188 rfl rfl⟩, ⟨rfl, by decide, by decide, by decide⟩, TX8, 11, rfl, by decide⟩
set_option maxRecDepth 20000 in
theorem m_X8_396 : o_MS RX8 396 yX8_isError cX8_isError 1 (some FieldType.boolean) 1 := ⟨⟨o_t2 228 rfl rfl, o_t2 229 rfl rfl, o_t1 1 rfl rfl, o_t2 230 rfl rfl⟩, rfl, by decide, by decide, by decide⟩
set_option maxRecDepth 20000 in
theorem m_X8_399 : o_MV RX8 399 RX5 yX5_takeBack cX5_takeBack 2 none 1 5 := ⟨⟨o_t4 189 rfl rfl, o_t4 190 rfl rfl, o_t4 191 rfl rfl, o_t1 5 rfl rfl, o_t4 192 rfl rfl⟩, ⟨rfl, by decide, by decide, by decide⟩, TX5, 3, rfl, by decide⟩
set_option maxRecDepth 20000 in
theorem m_X8_401 : o_MV RX8 401 RX5 yX5_commit cX5_commit 1 none 0 5 := ⟨⟨o_t2 231 rfl rfl, o_t2 151 rfl rfl, o_t2 152 rfl rfl, o_t1 5 rfl rfl, o_t2 153 rfl rfl⟩, ⟨rfl, by decide, by decide, by decide⟩, TX5, 3, rfl, by decide⟩
set_option maxRecDepth 20000 in
theorem m_X8_411 : o_MV RX8 411 RX6 yX6_openLoans cX6_openLoans 3 (some FieldType.int) 0 6 := ⟨⟨o_t4 210 rfl rfl, o_t4 211 rfl rfl, o_t4 212 rfl rfl, o_t1 2 rfl rfl, o_t4 213 rfl rfl⟩, ⟨rfl, by decide, by decide, by decide⟩, TX6, 8, rfl, by decide⟩
set_option maxRecDepth 20000 in
theorem m_X8_414 : o_MV RX8 414 RX6 yX6_copiesInAll cX6_copiesInAll 4 (some FieldType.int) 1 6 := ⟨⟨o_t4 214 rfl rfl, o_t4 215 rfl rfl, o_t4 216 rfl rfl, o_t1 2 rfl rfl, o_t4 217 rfl rfl⟩, ⟨rfl, by decide, by decide, by decide⟩, TX6, 8, rfl, by decide⟩
set_option maxRecDepth 20000 in
theorem m_X8_415 : o_MV RX8 415 RX6 yX6_feesInAll cX6_feesInAll 3 (some FieldType.int) 0 6 := ⟨⟨o_t4 219 rfl rfl, o_t4 220 rfl rfl, o_t4 221 rfl rfl, o_t1 2 rfl rfl, o_t4 222 rfl rfl⟩, ⟨rfl, by decide, by decide, by decide⟩, TX6, 8, rfl, by decide⟩
set_option maxRecDepth 20000 in
theorem m_X8_421 : o_MV RX8 421 RX5 yX5_goBack cX5_goBack 2 none 1 5 := ⟨⟨o_t4 227 rfl rfl, o_t4 228 rfl rfl, o_t4 229 rfl rfl, o_t1 5 rfl rfl, o_t4 230 rfl rfl⟩, ⟨rfl, by decide, by decide, by decide⟩, TX5, 3, rfl, by decide⟩
set_option maxRecDepth 20000 in
theorem m_X8_424 : o_MV RX8 424 RX6 yX6_becomeLike cX6_becomeLike 3 none 1 6 := ⟨⟨o_t4 236 rfl rfl, o_t2 131 rfl rfl, o_t2 132 rfl rfl, o_t1 2 rfl rfl, o_t2 133 rfl rfl⟩, ⟨rfl, by decide, by decide, by decide⟩, TX6, 8, rfl, by decide⟩
set_option maxRecDepth 20000 in
theorem m_X0_35 : o_MV RX0 35 RX0 yX0_copyOne cX0_copyOne 10 none 5 0 := ⟨⟨o_t3 186 rfl rfl, o_t3 188 rfl rfl, o_sel 20 rfl rfl, o_t1 7 rfl rfl, o_t3 189 rfl rfl⟩, ⟨rfl, by decide, by decide, by decide⟩, TX0, 5, rfl, by decide⟩
set_option maxRecDepth 20000 in
theorem m_X0_43 : o_MV RX0 43 RX4 yX4_barWith cX4_barWith 4 (some FieldType.int) 2 4 := ⟨⟨o_t3 190 rfl rfl, o_t3 54 rfl rfl, o_t3 55 rfl rfl, o_t1 3 rfl rfl, o_t3 56 rfl rfl⟩, ⟨rfl, by decide, by decide, by decide⟩, TX4, 11, rfl, by decide⟩
set_option maxRecDepth 20000 in
theorem m_X1_35 : o_MV RX1 35 RX1 yX1_isEmptyAt cX1_isEmptyAt 2 (some FieldType.boolean) 1 1 := ⟨⟨o_t4 59 rfl rfl, o_t4 60 rfl rfl, o_t4 61 rfl rfl, o_t1 8 rfl rfl, o_t4 62 rfl rfl⟩, ⟨rfl, by decide, by decide, by decide⟩, TX1, 4, rfl, by decide⟩
set_option maxRecDepth 20000 in
theorem m_X2_33 : o_MV RX2 33 RX2 yX2_parseCommand cX2_parseCommand 7 (some FieldType.boolean) 0 2 := ⟨⟨o_t4 110 rfl rfl, o_t4 112 rfl rfl, o_sel 26 rfl rfl, o_t1 9 rfl rfl, o_t4 113 rfl rfl⟩, ⟨rfl, by decide, by decide, by decide⟩, TX2, 6, rfl, by decide⟩
set_option maxRecDepth 20000 in
theorem m_X2_37 : o_MV RX2 37 RX2 yX2_accept cX2_accept 2 (some FieldType.boolean) 1 2 := ⟨⟨o_t4 177 rfl rfl, o_t4 179 rfl rfl, o_sel 27 rfl rfl, o_t1 9 rfl rfl, o_t4 180 rfl rfl⟩, ⟨rfl, by decide, by decide, by decide⟩, TX2, 6, rfl, by decide⟩
set_option maxRecDepth 20000 in
theorem m_X2_41 : o_MS RX2 41 yX2_formBehind cX2_formBehind 1 (some (FieldType.object "java/lang/String")) 1 := ⟨⟨o_t4 114 rfl rfl, o_t4 115 rfl rfl, o_t1 9 rfl rfl, o_t4 116 rfl rfl⟩, rfl, by decide, by decide, by decide⟩
set_option maxRecDepth 20000 in
theorem m_X2_57 : o_MV RX2 57 RX2 yX2_parseNumber cX2_parseNumber 4 (some FieldType.int) 1 2 := ⟨⟨o_t4 181 rfl rfl, o_t4 183 rfl rfl, o_sel 28 rfl rfl, o_t1 9 rfl rfl, o_t4 184 rfl rfl⟩, ⟨rfl, by decide, by decide, by decide⟩, TX2, 6, rfl, by decide⟩
set_option maxRecDepth 20000 in
theorem m_X3_42 : o_MV RX3 42 RX4 yX4_barWith cX4_barWith 4 (some FieldType.int) 2 4 := ⟨⟨o_t3 65 rfl rfl, o_t3 54 rfl rfl, o_t3 55 rfl rfl, o_t1 3 rfl rfl, o_t3 56 rfl rfl⟩, ⟨rfl, by decide, by decide, by decide⟩, TX4, 11, rfl, by decide⟩
set_option maxRecDepth 20000 in
theorem m_X3_46 : o_MV RX3 46 RX3 yX3_extendOrBegin cX3_extendOrBegin 5 none 3 3 := ⟨⟨o_t3 66 rfl rfl, o_t3 68 rfl rfl, o_sel 14 rfl rfl, o_t1 6 rfl rfl, o_t3 69 rfl rfl⟩, ⟨rfl, by decide, by decide, by decide⟩, TX3, 7, rfl, by decide⟩
set_option maxRecDepth 20000 in
theorem m_X3_50 : o_MV RX3 50 RX3 yX3_addGap cX3_addGap 4 none 3 3 := ⟨⟨o_t3 74 rfl rfl, o_t3 76 rfl rfl, o_sel 16 rfl rfl, o_t1 6 rfl rfl, o_t3 77 rfl rfl⟩, ⟨rfl, by decide, by decide, by decide⟩, TX3, 7, rfl, by decide⟩
set_option maxRecDepth 20000 in
theorem m_X3_56 : o_MV RX3 56 RX3 yX3_addFacing cX3_addFacing 4 none 3 3 := ⟨⟨o_t3 78 rfl rfl, o_t3 80 rfl rfl, o_sel 17 rfl rfl, o_t1 6 rfl rfl, o_t3 81 rfl rfl⟩, ⟨rfl, by decide, by decide, by decide⟩, TX3, 7, rfl, by decide⟩
set_option maxRecDepth 20000 in
theorem m_X3_60 : o_MV RX3 60 RX3 yX3_begin cX3_begin 5 none 4 3 := ⟨⟨o_t3 70 rfl rfl, o_t3 72 rfl rfl, o_sel 15 rfl rfl, o_t1 6 rfl rfl, o_t3 73 rfl rfl⟩, ⟨rfl, by decide, by decide, by decide⟩, TX3, 7, rfl, by decide⟩
set_option maxRecDepth 20000 in
theorem m_X4_48 : o_MV RX4 48 RX4 yX4_fillNewBars cX4_fillNewBars 7 none 4 4 := ⟨⟨o_t2 162 rfl rfl, o_t2 164 rfl rfl, o_sel 2 rfl rfl, o_t1 3 rfl rfl, o_t2 165 rfl rfl⟩, ⟨rfl, by decide, by decide, by decide⟩, TX4, 11, rfl, by decide⟩
set_option maxRecDepth 20000 in
theorem m_X4_52 : o_MV RX4 52 RX4 yX4_clearCopies cX4_clearCopies 2 none 0 4 := ⟨⟨o_t2 166 rfl rfl, o_t2 168 rfl rfl, o_sel 3 rfl rfl, o_t1 3 rfl rfl, o_t2 169 rfl rfl⟩, ⟨rfl, by decide, by decide, by decide⟩, TX4, 11, rfl, by decide⟩
set_option maxRecDepth 20000 in
theorem m_X4_55 : o_MV RX4 55 RX4 yX4_becomeLike cX4_becomeLike 3 none 1 4 := ⟨⟨o_t2 186 rfl rfl, o_t2 135 rfl rfl, o_t2 136 rfl rfl, o_t1 3 rfl rfl, o_t2 137 rfl rfl⟩, ⟨rfl, by decide, by decide, by decide⟩, TX4, 11, rfl, by decide⟩
set_option maxRecDepth 20000 in
theorem m_X4_59 : o_MV RX4 59 RX4 yX4_copyRow cX4_copyRow 3 none 2 4 := ⟨⟨o_t2 138 rfl rfl, o_t2 140 rfl rfl, o_sel 1 rfl rfl, o_t1 3 rfl rfl, o_t2 141 rfl rfl⟩, ⟨rfl, by decide, by decide, by decide⟩, TX4, 11, rfl, by decide⟩
set_option maxRecDepth 20000 in
theorem m_X4_69 : o_MV RX4 69 RX4 yX4_moveTail cX4_moveTail 5 none 2 4 := ⟨⟨o_t2 220 rfl rfl, o_t2 222 rfl rfl, o_sel 8 rfl rfl, o_t1 3 rfl rfl, o_t2 223 rfl rfl⟩, ⟨rfl, by decide, by decide, by decide⟩, TX4, 11, rfl, by decide⟩
set_option maxRecDepth 20000 in
theorem m_X4_73 : o_MV RX4 73 RX4 yX4_countingTempo cX4_countingTempo 3 (some FieldType.int) 1 4 := ⟨⟨o_t3 102 rfl rfl, o_t3 42 rfl rfl, o_t3 43 rfl rfl, o_t1 3 rfl rfl, o_t3 44 rfl rfl⟩, ⟨rfl, by decide, by decide, by decide⟩, TX4, 11, rfl, by decide⟩
set_option maxRecDepth 20000 in
theorem m_X4_77 : o_MS RX4 77 yX4_durationOfBar cX4_durationOfBar 2 (some FieldType.float) 2 := ⟨⟨o_t3 103 rfl rfl, o_t3 104 rfl rfl, o_t1 3 rfl rfl, o_t3 105 rfl rfl⟩, rfl, by decide, by decide, by decide⟩
set_option maxRecDepth 20000 in
theorem m_X4_81 : o_MV RX4 81 RX4 yX4_duration cX4_duration 6 (some FieldType.float) 2 4 := ⟨⟨o_t3 121 rfl rfl, o_t3 99 rfl rfl, o_t3 100 rfl rfl, o_t1 3 rfl rfl, o_t3 101 rfl rfl⟩, ⟨rfl, by decide, by decide, by decide⟩, TX4, 11, rfl, by decide⟩
set_option maxRecDepth 20000 in
theorem m_X4_86 : o_MV RX4 86 RX4 yX4_filled cX4_filled 4 (some FieldType.int) 1 4 := ⟨⟨o_t3 25 rfl rfl, o_t3 27 rfl rfl, o_sel 12 rfl rfl, o_t1 3 rfl rfl, o_t3 28 rfl rfl⟩, ⟨rfl, by decide, by decide, by decide⟩, TX4, 11, rfl, by decide⟩
set_option maxRecDepth 20000 in
theorem m_X4_90 : o_MV RX4 90 RX4 yX4_copies cX4_copies 3 (some FieldType.int) 2 4 := ⟨⟨o_t2 208 rfl rfl, o_t2 209 rfl rfl, o_t2 210 rfl rfl, o_t1 3 rfl rfl, o_t2 211 rfl rfl⟩, ⟨rfl, by decide, by decide, by decide⟩, TX4, 11, rfl, by decide⟩
set_option maxRecDepth 20000 in
theorem m_X4_94 : o_MV RX4 94 RX4 yX4_copiesInAll cX4_copiesInAll 4 (some FieldType.int) 1 4 := ⟨⟨o_t2 204 rfl rfl, o_t2 205 rfl rfl, o_t2 206 rfl rfl, o_t1 3 rfl rfl, o_t2 207 rfl rfl⟩, ⟨rfl, by decide, by decide, by decide⟩, TX4, 11, rfl, by decide⟩
set_option maxRecDepth 20000 in
theorem m_X5_17 : o_MI RX5 17 yX6_init cX6_init 2 0 := ⟨⟨o_t1 185 rfl rfl, o_t1 29 rfl rfl, o_t1 2 rfl rfl, o_t1 30 rfl rfl⟩, rfl, by decide, by decide, by decide⟩
set_option maxRecDepth 20000 in
theorem m_X5_18 : o_MV RX5 18 RX5 yX5_spareRow cX5_spareRow 1 (some (FieldType.object "OrchestraLibrary$Holdings")) 0 5 := ⟨⟨o_t2 126 rfl rfl, o_t2 128 rfl rfl, o_sel 0 rfl rfl, o_t1 5 rfl rfl, o_t2 129 rfl rfl⟩, ⟨rfl, by decide, by decide, by decide⟩, TX5, 3, rfl, by decide⟩
set_option maxRecDepth 20000 in
theorem m_X5_22 : o_MV RX5 22 RX6 yX6_becomeLike cX6_becomeLike 3 none 1 6 := ⟨⟨o_t2 130 rfl rfl, o_t2 131 rfl rfl, o_t2 132 rfl rfl, o_t1 2 rfl rfl, o_t2 133 rfl rfl⟩, ⟨rfl, by decide, by decide, by decide⟩, TX6, 8, rfl, by decide⟩
set_option maxRecDepth 20000 in
theorem m_X5_33 : o_MV RX5 33 RX5 yX5_prepare cX5_prepare 2 none 1 5 := ⟨⟨o_t2 122 rfl rfl, o_t2 123 rfl rfl, o_t2 124 rfl rfl, o_t1 5 rfl rfl, o_t2 125 rfl rfl⟩, ⟨rfl, by decide, by decide, by decide⟩, TX5, 3, rfl, by decide⟩
set_option maxRecDepth 20000 in
theorem m_X5_36 : o_MV RX5 36 RX5 yX5_commit cX5_commit 1 none 0 5 := ⟨⟨o_t2 150 rfl rfl, o_t2 151 rfl rfl, o_t2 152 rfl rfl, o_t1 5 rfl rfl, o_t2 153 rfl rfl⟩, ⟨rfl, by decide, by decide, by decide⟩, TX5, 3, rfl, by decide⟩
set_option maxRecDepth 20000 in
theorem m_X5_39 : o_MV RX5 39 RX5 yX5_takeBack cX5_takeBack 2 none 1 5 := ⟨⟨o_t4 231 rfl rfl, o_t4 190 rfl rfl, o_t4 191 rfl rfl, o_t1 5 rfl rfl, o_t4 192 rfl rfl⟩, ⟨rfl, by decide, by decide, by decide⟩, TX5, 3, rfl, by decide⟩
set_option maxRecDepth 20000 in
theorem m_X6_17 : o_MI RX6 17 yX4_init cX4_init 1 0 := ⟨⟨o_t1 35 rfl rfl, o_t1 36 rfl rfl, o_t1 3 rfl rfl, o_t1 37 rfl rfl⟩, rfl, by decide, by decide, by decide⟩
set_option maxRecDepth 20000 in
theorem m_X6_39 : o_MV RX6 39 RX4 yX4_becomeLike cX4_becomeLike 3 none 1 4 := ⟨⟨o_t2 134 rfl rfl, o_t2 135 rfl rfl, o_t2 136 rfl rfl, o_t1 3 rfl rfl, o_t2 137 rfl rfl⟩, ⟨rfl, by decide, by decide, by decide⟩, TX4, 11, rfl, by decide⟩
set_option maxRecDepth 20000 in
theorem m_X6_52 : o_MV RX6 52 RX7 yX7_becomeLike cX7_becomeLike 2 none 1 7 := ⟨⟨o_t2 146 rfl rfl, o_t2 147 rfl rfl, o_t2 148 rfl rfl, o_t1 4 rfl rfl, o_t2 149 rfl rfl⟩, ⟨rfl, by decide, by decide, by decide⟩, TX7, 8, rfl, by decide⟩
set_option maxRecDepth 20000 in
theorem m_X6_61 : o_MV RX6 61 RX4 yX4_becomeFirst cX4_becomeFirst 4 none 3 4 := ⟨⟨o_t2 158 rfl rfl, o_t2 159 rfl rfl, o_t2 160 rfl rfl, o_t1 3 rfl rfl, o_t2 161 rfl rfl⟩, ⟨rfl, by decide, by decide, by decide⟩, TX4, 11, rfl, by decide⟩
set_option maxRecDepth 20000 in
theorem m_X6_65 : o_MV RX6 65 RX4 yX4_becomeCopy cX4_becomeCopy 3 none 2 4 := ⟨⟨o_t2 182 rfl rfl, o_t2 183 rfl rfl, o_t2 184 rfl rfl, o_t1 3 rfl rfl, o_t2 185 rfl rfl⟩, ⟨rfl, by decide, by decide, by decide⟩, TX4, 11, rfl, by decide⟩
set_option maxRecDepth 20000 in
theorem m_X6_72 : o_MV RX6 72 RX6 yX6_desks cX6_desks 2 (some FieldType.int) 1 6 := ⟨⟨o_t3 234 rfl rfl, o_t3 151 rfl rfl, o_t3 152 rfl rfl, o_t1 2 rfl rfl, o_t3 153 rfl rfl⟩, ⟨rfl, by decide, by decide, by decide⟩, TX6, 8, rfl, by decide⟩
set_option maxRecDepth 20000 in
theorem m_X6_79 : o_MV RX6 79 RX6 yX6_addLoan cX6_addLoan 8 (some FieldType.int) 5 6 := ⟨⟨o_t3 239 rfl rfl, o_t3 219 rfl rfl, o_t3 220 rfl rfl, o_t1 2 rfl rfl, o_t3 221 rfl rfl⟩, ⟨rfl, by decide, by decide, by decide⟩, TX6, 8, rfl, by decide⟩
set_option maxRecDepth 20000 in
theorem m_X6_122 : o_MV RX6 122 RX7 yX7_isOverdue cX7_isOverdue 2 (some FieldType.boolean) 1 7 := ⟨⟨o_t4 35 rfl rfl, o_t3 215 rfl rfl, o_t3 216 rfl rfl, o_t1 4 rfl rfl, o_t3 217 rfl rfl⟩, ⟨rfl, by decide, by decide, by decide⟩, TX7, 8, rfl, by decide⟩
set_option maxRecDepth 20000 in
theorem m_X6_126 : o_MV RX6 126 RX6 yX6_overdueAhead cX6_overdueAhead 5 (some FieldType.int) 1 6 := ⟨⟨o_t4 36 rfl rfl, o_t4 38 rfl rfl, o_sel 24 rfl rfl, o_t1 2 rfl rfl, o_t4 39 rfl rfl⟩, ⟨rfl, by decide, by decide, by decide⟩, TX6, 8, rfl, by decide⟩
set_option maxRecDepth 20000 in
theorem m_X6_129 : o_MV RX6 129 RX7 yX7_number cX7_number 3 (some FieldType.int) 2 7 := ⟨⟨o_t3 210 rfl rfl, o_t3 211 rfl rfl, o_t3 212 rfl rfl, o_t1 4 rfl rfl, o_t3 213 rfl rfl⟩, ⟨rfl, by decide, by decide, by decide⟩, TX7, 8, rfl, by decide⟩
set_option maxRecDepth 20000 in
theorem m_X6_132 : o_MV RX6 132 RX4 yX4_copiesInAll cX4_copiesInAll 4 (some FieldType.int) 1 4 := ⟨⟨o_t4 218 rfl rfl, o_t2 205 rfl rfl, o_t2 206 rfl rfl, o_t1 3 rfl rfl, o_t2 207 rfl rfl⟩, ⟨rfl, by decide, by decide, by decide⟩, TX4, 11, rfl, by decide⟩
set_option maxRecDepth 20000 in
theorem m_X7_36 : o_MV RX7 36 RX7 yX7_isOverdue cX7_isOverdue 2 (some FieldType.boolean) 1 7 := ⟨⟨o_t3 214 rfl rfl, o_t3 215 rfl rfl, o_t3 216 rfl rfl, o_t1 4 rfl rfl, o_t3 217 rfl rfl⟩, ⟨rfl, by decide, by decide, by decide⟩, TX7, 8, rfl, by decide⟩
set_option maxRecDepth 20000 in
theorem m_L_9 : o_MI RL 9 yX8_init cX8_init 2 0 := ⟨⟨o_t1 20 rfl rfl, o_t1 21 rfl rfl, o_t1 1 rfl rfl, o_t1 22 rfl rfl⟩, rfl, by decide, by decide, by decide⟩
set_option maxRecDepth 20000 in
theorem m_L_12 : o_MI RL 12 yX9_init cX9_init 2 0 := ⟨⟨o_t5 3 rfl rfl, o_t5 4 rfl rfl, o_t1 10 rfl rfl, o_t5 5 rfl rfl⟩, rfl, by decide, by decide, by decide⟩
set_option maxRecDepth 20000 in
theorem m_L_13 : o_MV RL 13 RX8 yX8_edition cX8_edition 4 (some FieldType.int) 3 8 := ⟨⟨o_t2 107 rfl rfl, o_t2 108 rfl rfl, o_t2 109 rfl rfl, o_t1 1 rfl rfl, o_t2 110 rfl rfl⟩, ⟨rfl, by decide, by decide, by decide⟩, TX8, 11, rfl, by decide⟩
set_option maxRecDepth 20000 in
theorem m_L_17 : o_MV RL 17 RX9 yX9_edition cX9_edition 6 (some FieldType.int) 3 9 := ⟨⟨o_t5 93 rfl rfl, o_t5 94 rfl rfl, o_t5 95 rfl rfl, o_t1 10 rfl rfl, o_t5 96 rfl rfl⟩, ⟨rfl, by decide, by decide, by decide⟩, TX9, 28, rfl, by decide⟩
set_option maxRecDepth 20000 in
theorem m_L_18 : o_MV RL 18 RX8 yX8_derive cX8_derive 2 (some FieldType.int) 1 8 := ⟨⟨o_t2 170 rfl rfl, o_t2 171 rfl rfl, o_t2 172 rfl rfl, o_t1 1 rfl rfl, o_t2 173 rfl rfl⟩, ⟨rfl, by decide, by decide, by decide⟩, TX8, 11, rfl, by decide⟩
set_option maxRecDepth 20000 in
theorem m_L_22 : o_MV RL 22 RX9 yX9_derive cX9_derive 4 (some FieldType.int) 1 9 := ⟨⟨o_t5 117 rfl rfl, o_t5 118 rfl rfl, o_t5 119 rfl rfl, o_t1 10 rfl rfl, o_t5 120 rfl rfl⟩, ⟨rfl, by decide, by decide, by decide⟩, TX9, 28, rfl, by decide⟩
set_option maxRecDepth 20000 in
theorem m_L_23 : o_MV RL 23 RX8 yX8_cut cX8_cut 4 (some FieldType.int) 3 8 := ⟨⟨o_t2 187 rfl rfl, o_t2 188 rfl rfl, o_t2 189 rfl rfl, o_t1 1 rfl rfl, o_t2 190 rfl rfl⟩, ⟨rfl, by decide, by decide, by decide⟩, TX8, 11, rfl, by decide⟩
set_option maxRecDepth 20000 in
theorem m_L_26 : o_MV RL 26 RX9 yX9_cut cX9_cut 6 (some FieldType.int) 3 9 := ⟨⟨o_t5 125 rfl rfl, o_t5 126 rfl rfl, o_t5 127 rfl rfl, o_t1 10 rfl rfl, o_t5 128 rfl rfl⟩, ⟨rfl, by decide, by decide, by decide⟩, TX9, 28, rfl, by decide⟩
set_option maxRecDepth 20000 in
theorem m_L_27 : o_MV RL 27 RX8 yX8_insert cX8_insert 5 (some FieldType.int) 4 8 := ⟨⟨o_t2 232 rfl rfl, o_t2 233 rfl rfl, o_t2 234 rfl rfl, o_t1 1 rfl rfl, o_t2 235 rfl rfl⟩, ⟨rfl, by decide, by decide, by decide⟩, TX8, 11, rfl, by decide⟩
set_option maxRecDepth 20000 in
theorem m_L_31 : o_MV RL 31 RX9 yX9_insert cX9_insert 8 (some FieldType.int) 4 9 := ⟨⟨o_t5 153 rfl rfl, o_t5 154 rfl rfl, o_t5 155 rfl rfl, o_t1 10 rfl rfl, o_t5 156 rfl rfl⟩, ⟨rfl, by decide, by decide, by decide⟩, TX9, 28, rfl, by decide⟩
set_option maxRecDepth 20000 in
theorem m_L_32 : o_MV RL 32 RX8 yX8_rework cX8_rework 4 (some FieldType.int) 3 8 := ⟨⟨o_t3 4 rfl rfl, o_t3 5 rfl rfl, o_t3 6 rfl rfl, o_t1 1 rfl rfl, o_t3 7 rfl rfl⟩, ⟨rfl, by decide, by decide, by decide⟩, TX8, 11, rfl, by decide⟩
set_option maxRecDepth 20000 in
theorem m_L_35 : o_MV RL 35 RX9 yX9_rework cX9_rework 5 (some FieldType.int) 3 9 := ⟨⟨o_t5 157 rfl rfl, o_t5 158 rfl rfl, o_t5 159 rfl rfl, o_t1 10 rfl rfl, o_t5 160 rfl rfl⟩, ⟨rfl, by decide, by decide, by decide⟩, TX9, 28, rfl, by decide⟩
set_option maxRecDepth 20000 in
theorem m_L_36 : o_MV RL 36 RX8 yX8_ofEdition cX8_ofEdition 4 (some FieldType.int) 2 8 := ⟨⟨o_t3 12 rfl rfl, o_t3 13 rfl rfl, o_t3 14 rfl rfl, o_t1 1 rfl rfl, o_t3 15 rfl rfl⟩, ⟨rfl, by decide, by decide, by decide⟩, TX8, 11, rfl, by decide⟩
set_option maxRecDepth 20000 in
theorem m_L_40 : o_MV RL 40 RX9 yX9_ofEdition cX9_ofEdition 5 (some FieldType.int) 2 9 := ⟨⟨o_t5 161 rfl rfl, o_t5 162 rfl rfl, o_t5 163 rfl rfl, o_t1 10 rfl rfl, o_t5 164 rfl rfl⟩, ⟨rfl, by decide, by decide, by decide⟩, TX9, 28, rfl, by decide⟩
set_option maxRecDepth 20000 in
theorem m_L_41 : o_MV RL 41 RX8 yX8_bar cX8_bar 5 (some FieldType.int) 3 8 := ⟨⟨o_t3 33 rfl rfl, o_t3 34 rfl rfl, o_t3 35 rfl rfl, o_t1 1 rfl rfl, o_t3 36 rfl rfl⟩, ⟨rfl, by decide, by decide, by decide⟩, TX8, 11, rfl, by decide⟩
set_option maxRecDepth 20000 in
theorem m_L_44 : o_MV RL 44 RX9 yX9_bar cX9_bar 4 (some FieldType.int) 3 9 := ⟨⟨o_t5 169 rfl rfl, o_t5 170 rfl rfl, o_t5 171 rfl rfl, o_t1 10 rfl rfl, o_t5 172 rfl rfl⟩, ⟨rfl, by decide, by decide, by decide⟩, TX9, 28, rfl, by decide⟩
set_option maxRecDepth 20000 in
theorem m_L_45 : o_MV RL 45 RX8 yX8_carry cX8_carry 5 (some FieldType.int) 3 8 := ⟨⟨o_t3 45 rfl rfl, o_t3 46 rfl rfl, o_t3 47 rfl rfl, o_t1 1 rfl rfl, o_t3 48 rfl rfl⟩, ⟨rfl, by decide, by decide, by decide⟩, TX8, 11, rfl, by decide⟩
set_option maxRecDepth 20000 in
theorem m_L_48 : o_MV RL 48 RX9 yX9_carry cX9_carry 4 (some FieldType.int) 3 9 := ⟨⟨o_t5 177 rfl rfl, o_t5 178 rfl rfl, o_t5 179 rfl rfl, o_t1 10 rfl rfl, o_t5 180 rfl rfl⟩, ⟨rfl, by decide, by decide, by decide⟩, TX9, 28, rfl, by decide⟩
set_option maxRecDepth 20000 in
theorem m_L_49 : o_MV RL 49 RX8 yX8_compare cX8_compare 4 (some FieldType.int) 3 8 := ⟨⟨o_t3 57 rfl rfl, o_t3 58 rfl rfl, o_t3 59 rfl rfl, o_t1 1 rfl rfl, o_t3 60 rfl rfl⟩, ⟨rfl, by decide, by decide, by decide⟩, TX8, 11, rfl, by decide⟩
set_option maxRecDepth 20000 in
theorem m_L_52 : o_MV RL 52 RX9 yX9_compare cX9_compare 8 (some FieldType.int) 3 9 := ⟨⟨o_t5 189 rfl rfl, o_t5 190 rfl rfl, o_t5 191 rfl rfl, o_t1 10 rfl rfl, o_t5 192 rfl rfl⟩, ⟨rfl, by decide, by decide, by decide⟩, TX9, 28, rfl, by decide⟩
set_option maxRecDepth 20000 in
theorem m_L_53 : o_MV RL 53 RX8 yX8_difference cX8_difference 5 (some FieldType.int) 4 8 := ⟨⟨o_t3 82 rfl rfl, o_t3 83 rfl rfl, o_t3 84 rfl rfl, o_t1 1 rfl rfl, o_t3 85 rfl rfl⟩, ⟨rfl, by decide, by decide, by decide⟩, TX8, 11, rfl, by decide⟩
set_option maxRecDepth 20000 in
theorem m_L_56 : o_MV RL 56 RX9 yX9_difference cX9_difference 5 (some FieldType.int) 4 9 := ⟨⟨o_t5 205 rfl rfl, o_t5 206 rfl rfl, o_t5 207 rfl rfl, o_t1 10 rfl rfl, o_t5 208 rfl rfl⟩, ⟨rfl, by decide, by decide, by decide⟩, TX9, 28, rfl, by decide⟩
set_option maxRecDepth 20000 in
theorem m_L_57 : o_MV RL 57 RX8 yX8_tempo cX8_tempo 4 (some FieldType.int) 3 8 := ⟨⟨o_t3 86 rfl rfl, o_t3 87 rfl rfl, o_t3 88 rfl rfl, o_t1 1 rfl rfl, o_t3 89 rfl rfl⟩, ⟨rfl, by decide, by decide, by decide⟩, TX8, 11, rfl, by decide⟩
set_option maxRecDepth 20000 in
theorem m_L_60 : o_MV RL 60 RX9 yX9_tempo cX9_tempo 5 (some FieldType.int) 3 9 := ⟨⟨o_t5 209 rfl rfl, o_t5 210 rfl rfl, o_t5 211 rfl rfl, o_t1 10 rfl rfl, o_t5 212 rfl rfl⟩, ⟨rfl, by decide, by decide, by decide⟩, TX9, 28, rfl, by decide⟩
set_option maxRecDepth 20000 in
theorem m_L_61 : o_MV RL 61 RX8 yX8_seconds cX8_seconds 4 (some FieldType.int) 3 8 := ⟨⟨o_t3 94 rfl rfl, o_t3 95 rfl rfl, o_t3 96 rfl rfl, o_t1 1 rfl rfl, o_t3 97 rfl rfl⟩, ⟨rfl, by decide, by decide, by decide⟩, TX8, 11, rfl, by decide⟩
set_option maxRecDepth 20000 in
theorem m_L_64 : o_MV RL 64 RX9 yX9_seconds cX9_seconds 4 (some FieldType.int) 3 9 := ⟨⟨o_t5 213 rfl rfl, o_t5 214 rfl rfl, o_t5 215 rfl rfl, o_t1 10 rfl rfl, o_t5 216 rfl rfl⟩, ⟨rfl, by decide, by decide, by decide⟩, TX9, 28, rfl, by decide⟩
set_option maxRecDepth 20000 in
theorem m_L_65 : o_MV RL 65 RX8 yX8_length cX8_length 2 (some FieldType.int) 1 8 := ⟨⟨o_t3 113 rfl rfl, o_t3 114 rfl rfl, o_t3 115 rfl rfl, o_t1 1 rfl rfl, o_t3 116 rfl rfl⟩, ⟨rfl, by decide, by decide, by decide⟩, TX8, 11, rfl, by decide⟩
set_option maxRecDepth 20000 in
theorem m_L_68 : o_MV RL 68 RX9 yX9_length cX9_length 2 (some FieldType.int) 1 9 := ⟨⟨o_t5 233 rfl rfl, o_t5 234 rfl rfl, o_t5 235 rfl rfl, o_t1 10 rfl rfl, o_t5 236 rfl rfl⟩, ⟨rfl, by decide, by decide, by decide⟩, TX9, 28, rfl, by decide⟩
set_option maxRecDepth 20000 in
theorem m_L_69 : o_MV RL 69 RX8 yX8_barAt cX8_barAt 4 (some FieldType.int) 2 8 := ⟨⟨o_t3 122 rfl rfl, o_t3 123 rfl rfl, o_t3 124 rfl rfl, o_t1 1 rfl rfl, o_t3 125 rfl rfl⟩, ⟨rfl, by decide, by decide, by decide⟩, TX8, 11, rfl, by decide⟩
set_option maxRecDepth 20000 in
theorem m_L_72 : o_MV RL 72 RX9 yX9_barAt cX9_barAt 4 (some FieldType.int) 2 9 := ⟨⟨o_t5 237 rfl rfl, o_t5 238 rfl rfl, o_t5 239 rfl rfl, o_t1 10 rfl rfl, o_t6 0 rfl rfl⟩, ⟨rfl, by decide, by decide, by decide⟩, TX9, 28, rfl, by decide⟩
set_option maxRecDepth 20000 in
theorem m_L_73 : o_MV RL 73 RX8 yX8_pace cX8_pace 3 (some FieldType.int) 1 8 := ⟨⟨o_t3 130 rfl rfl, o_t3 131 rfl rfl, o_t3 132 rfl rfl, o_t1 1 rfl rfl, o_t3 133 rfl rfl⟩, ⟨rfl, by decide, by decide, by decide⟩, TX8, 11, rfl, by decide⟩
set_option maxRecDepth 20000 in
theorem m_L_76 : o_MV RL 76 RX9 yX9_pace cX9_pace 4 (some FieldType.int) 1 9 := ⟨⟨o_t6 1 rfl rfl, o_t6 2 rfl rfl, o_t6 3 rfl rfl, o_t1 10 rfl rfl, o_t6 4 rfl rfl⟩, ⟨rfl, by decide, by decide, by decide⟩, TX9, 28, rfl, by decide⟩
set_option maxRecDepth 20000 in
theorem m_L_77 : o_MV RL 77 RX8 yX8_seat cX8_seat 4 (some FieldType.int) 2 8 := ⟨⟨o_t3 139 rfl rfl, o_t3 140 rfl rfl, o_t3 141 rfl rfl, o_t1 1 rfl rfl, o_t3 142 rfl rfl⟩, ⟨rfl, by decide, by decide, by decide⟩, TX8, 11, rfl, by decide⟩
set_option maxRecDepth 20000 in
theorem m_L_80 : o_MV RL 80 RX9 yX9_seat cX9_seat 4 (some FieldType.int) 2 9 := ⟨⟨o_t6 5 rfl rfl, o_t6 6 rfl rfl, o_t6 7 rfl rfl, o_t1 10 rfl rfl, o_t6 8 rfl rfl⟩, ⟨rfl, by decide, by decide, by decide⟩, TX9, 28, rfl, by decide⟩
set_option maxRecDepth 20000 in
theorem m_L_81 : o_MV RL 81 RX8 yX8_needs cX8_needs 2 (some FieldType.int) 1 8 := ⟨⟨o_t3 146 rfl rfl, o_t3 147 rfl rfl, o_t3 148 rfl rfl, o_t1 1 rfl rfl, o_t3 149 rfl rfl⟩, ⟨rfl, by decide, by decide, by decide⟩, TX8, 11, rfl, by decide⟩
set_option maxRecDepth 20000 in
theorem m_L_84 : o_MV RL 84 RX9 yX9_needs cX9_needs 3 (some FieldType.int) 1 9 := ⟨⟨o_t6 12 rfl rfl, o_t6 13 rfl rfl, o_t6 14 rfl rfl, o_t1 10 rfl rfl, o_t6 15 rfl rfl⟩, ⟨rfl, by decide, by decide, by decide⟩, TX9, 28, rfl, by decide⟩
set_option maxRecDepth 20000 in
theorem m_L_85 : o_MV RL 85 RX8 yX8_buy cX8_buy 5 (some FieldType.int) 3 8 := ⟨⟨o_t3 154 rfl rfl, o_t3 155 rfl rfl, o_t3 156 rfl rfl, o_t1 1 rfl rfl, o_t3 157 rfl rfl⟩, ⟨rfl, by decide, by decide, by decide⟩, TX8, 11, rfl, by decide⟩
set_option maxRecDepth 20000 in
theorem m_L_88 : o_MV RL 88 RX9 yX9_buy cX9_buy 4 (some FieldType.int) 3 9 := ⟨⟨o_t6 16 rfl rfl, o_t6 17 rfl rfl, o_t6 18 rfl rfl, o_t1 10 rfl rfl, o_t6 19 rfl rfl⟩, ⟨rfl, by decide, by decide, by decide⟩, TX9, 28, rfl, by decide⟩
set_option maxRecDepth 20000 in
theorem m_L_89 : o_MV RL 89 RX8 yX8_stock cX8_stock 4 (some FieldType.int) 3 8 := ⟨⟨o_t3 159 rfl rfl, o_t3 160 rfl rfl, o_t3 161 rfl rfl, o_t1 1 rfl rfl, o_t3 162 rfl rfl⟩, ⟨rfl, by decide, by decide, by decide⟩, TX8, 11, rfl, by decide⟩
set_option maxRecDepth 20000 in
theorem m_L_92 : o_MV RL 92 RX9 yX9_stock cX9_stock 4 (some FieldType.int) 3 9 := ⟨⟨o_t6 20 rfl rfl, o_t6 21 rfl rfl, o_t6 22 rfl rfl, o_t1 10 rfl rfl, o_t6 23 rfl rfl⟩, ⟨rfl, by decide, by decide, by decide⟩, TX9, 28, rfl, by decide⟩
set_option maxRecDepth 20000 in
theorem m_L_93 : o_MV RL 93 RX8 yX8_bow cX8_bow 5 (some FieldType.int) 4 8 := ⟨⟨o_t3 163 rfl rfl, o_t3 164 rfl rfl, o_t3 165 rfl rfl, o_t1 1 rfl rfl, o_t3 166 rfl rfl⟩, ⟨rfl, by decide, by decide, by decide⟩, TX8, 11, rfl, by decide⟩
set_option maxRecDepth 20000 in
theorem m_L_96 : o_MV RL 96 RX9 yX9_bow cX9_bow 7 (some FieldType.int) 4 9 := ⟨⟨o_t6 36 rfl rfl, o_t6 37 rfl rfl, o_t6 38 rfl rfl, o_t1 10 rfl rfl, o_t6 39 rfl rfl⟩, ⟨rfl, by decide, by decide, by decide⟩, TX9, 28, rfl, by decide⟩
set_option maxRecDepth 20000 in
theorem m_L_97 : o_MV RL 97 RX8 yX8_bowing cX8_bowing 4 (some FieldType.int) 3 8 := ⟨⟨o_t3 174 rfl rfl, o_t3 175 rfl rfl, o_t3 176 rfl rfl, o_t1 1 rfl rfl, o_t3 177 rfl rfl⟩, ⟨rfl, by decide, by decide, by decide⟩, TX8, 11, rfl, by decide⟩
set_option maxRecDepth 20000 in
theorem m_L_100 : o_MV RL 100 RX9 yX9_bowing cX9_bowing 4 (some FieldType.int) 3 9 := ⟨⟨o_t6 40 rfl rfl, o_t6 41 rfl rfl, o_t6 42 rfl rfl, o_t1 10 rfl rfl, o_t6 43 rfl rfl⟩, ⟨rfl, by decide, by decide, by decide⟩, TX9, 28, rfl, by decide⟩
set_option maxRecDepth 20000 in
theorem m_L_101 : o_MV RL 101 RX8 yX8_copyBowings cX8_copyBowings 5 (some FieldType.int) 4 8 := ⟨⟨o_t3 178 rfl rfl, o_t3 179 rfl rfl, o_t3 180 rfl rfl, o_t1 1 rfl rfl, o_t3 181 rfl rfl⟩, ⟨rfl, by decide, by decide, by decide⟩, TX8, 11, rfl, by decide⟩
set_option maxRecDepth 20000 in
theorem m_L_104 : o_MV RL 104 RX9 yX9_copyBowings cX9_copyBowings 10 (some FieldType.int) 4 9 := ⟨⟨o_t6 44 rfl rfl, o_t6 45 rfl rfl, o_t6 46 rfl rfl, o_t1 10 rfl rfl, o_t6 47 rfl rfl⟩, ⟨rfl, by decide, by decide, by decide⟩, TX9, 28, rfl, by decide⟩
set_option maxRecDepth 20000 in
theorem m_L_105 : o_MV RL 105 RX8 yX8_copied cX8_copied 2 (some FieldType.int) 1 8 := ⟨⟨o_t3 191 rfl rfl, o_t3 192 rfl rfl, o_t3 193 rfl rfl, o_t1 1 rfl rfl, o_t3 194 rfl rfl⟩, ⟨rfl, by decide, by decide, by decide⟩, TX8, 11, rfl, by decide⟩
set_option maxRecDepth 20000 in
theorem m_L_108 : o_MV RL 108 RX9 yX9_copied cX9_copied 2 (some FieldType.int) 1 9 := ⟨⟨o_t6 48 rfl rfl, o_t6 49 rfl rfl, o_t6 50 rfl rfl, o_t1 10 rfl rfl, o_t6 51 rfl rfl⟩, ⟨rfl, by decide, by decide, by decide⟩, TX9, 28, rfl, by decide⟩
set_option maxRecDepth 20000 in
theorem m_L_109 : o_MV RL 109 RX8 yX8_lend cX8_lend 6 (some FieldType.int) 5 8 := ⟨⟨o_t3 195 rfl rfl, o_t3 196 rfl rfl, o_t3 197 rfl rfl, o_t1 1 rfl rfl, o_t3 198 rfl rfl⟩, ⟨rfl, by decide, by decide, by decide⟩, TX8, 11, rfl, by decide⟩
set_option maxRecDepth 20000 in
theorem m_L_113 : o_MV RL 113 RX9 yX9_lend cX9_lend 6 (some FieldType.int) 5 9 := ⟨⟨o_t6 52 rfl rfl, o_t6 53 rfl rfl, o_t6 54 rfl rfl, o_t1 10 rfl rfl, o_t6 55 rfl rfl⟩, ⟨rfl, by decide, by decide, by decide⟩, TX9, 28, rfl, by decide⟩
set_option maxRecDepth 20000 in
theorem m_L_114 : o_MV RL 114 RX8 yX8_lendAll cX8_lendAll 5 (some FieldType.int) 3 8 := ⟨⟨o_t3 222 rfl rfl, o_t3 223 rfl rfl, o_t3 224 rfl rfl, o_t1 1 rfl rfl, o_t3 225 rfl rfl⟩, ⟨rfl, by decide, by decide, by decide⟩, TX8, 11, rfl, by decide⟩
set_option maxRecDepth 20000 in
theorem m_L_117 : o_MV RL 117 RX9 yX9_lendAll cX9_lendAll 8 (some FieldType.int) 3 9 := ⟨⟨o_t6 71 rfl rfl, o_t6 72 rfl rfl, o_t6 73 rfl rfl, o_t1 10 rfl rfl, o_t6 74 rfl rfl⟩, ⟨rfl, by decide, by decide, by decide⟩, TX9, 28, rfl, by decide⟩
set_option maxRecDepth 20000 in
theorem m_L_118 : o_MV RL 118 RX8 yX8_bring cX8_bring 4 (some FieldType.int) 3 8 := ⟨⟨o_t4 0 rfl rfl, o_t4 1 rfl rfl, o_t4 2 rfl rfl, o_t1 1 rfl rfl, o_t4 3 rfl rfl⟩, ⟨rfl, by decide, by decide, by decide⟩, TX8, 11, rfl, by decide⟩
set_option maxRecDepth 20000 in
theorem m_L_121 : o_MV RL 121 RX9 yX9_bring cX9_bring 7 (some FieldType.int) 3 9 := ⟨⟨o_t6 76 rfl rfl, o_t6 77 rfl rfl, o_t6 78 rfl rfl, o_t1 10 rfl rfl, o_t6 79 rfl rfl⟩, ⟨rfl, by decide, by decide, by decide⟩, TX9, 28, rfl, by decide⟩
set_option maxRecDepth 20000 in
theorem m_L_122 : o_MV RL 122 RX8 yX8_loan cX8_loan 4 (some FieldType.int) 2 8 := ⟨⟨o_t4 22 rfl rfl, o_t4 23 rfl rfl, o_t4 24 rfl rfl, o_t1 1 rfl rfl, o_t4 25 rfl rfl⟩, ⟨rfl, by decide, by decide, by decide⟩, TX8, 11, rfl, by decide⟩
set_option maxRecDepth 20000 in
theorem m_L_125 : o_MV RL 125 RX9 yX9_loan cX9_loan 3 (some FieldType.int) 2 9 := ⟨⟨o_t6 82 rfl rfl, o_t6 83 rfl rfl, o_t6 84 rfl rfl, o_t1 10 rfl rfl, o_t6 85 rfl rfl⟩, ⟨rfl, by decide, by decide, by decide⟩, TX9, 28, rfl, by decide⟩
set_option maxRecDepth 20000 in
theorem m_L_126 : o_MV RL 126 RX8 yX8_overdue cX8_overdue 2 (some FieldType.int) 1 8 := ⟨⟨o_t4 27 rfl rfl, o_t4 28 rfl rfl, o_t4 29 rfl rfl, o_t1 1 rfl rfl, o_t4 30 rfl rfl⟩, ⟨rfl, by decide, by decide, by decide⟩, TX8, 11, rfl, by decide⟩
set_option maxRecDepth 20000 in
theorem m_L_129 : o_MV RL 129 RX9 yX9_overdue cX9_overdue 5 (some FieldType.int) 1 9 := ⟨⟨o_t6 86 rfl rfl, o_t6 87 rfl rfl, o_t6 88 rfl rfl, o_t1 10 rfl rfl, o_t6 89 rfl rfl⟩, ⟨rfl, by decide, by decide, by decide⟩, TX9, 28, rfl, by decide⟩
set_option maxRecDepth 20000 in
theorem m_L_130 : o_MV RL 130 RX8 yX8_borrower cX8_borrower 3 (some FieldType.int) 2 8 := ⟨⟨o_t4 40 rfl rfl, o_t4 41 rfl rfl, o_t4 42 rfl rfl, o_t1 1 rfl rfl, o_t4 43 rfl rfl⟩, ⟨rfl, by decide, by decide, by decide⟩, TX8, 11, rfl, by decide⟩
set_option maxRecDepth 20000 in
theorem m_L_133 : o_MV RL 133 RX9 yX9_borrower cX9_borrower 5 (some FieldType.int) 2 9 := ⟨⟨o_t6 90 rfl rfl, o_t6 91 rfl rfl, o_t6 92 rfl rfl, o_t1 10 rfl rfl, o_t6 93 rfl rfl⟩, ⟨rfl, by decide, by decide, by decide⟩, TX9, 28, rfl, by decide⟩
set_option maxRecDepth 20000 in
theorem m_L_134 : o_MV RL 134 RX8 yX8_pass cX8_pass 2 (some FieldType.int) 1 8 := ⟨⟨o_t4 44 rfl rfl, o_t4 45 rfl rfl, o_t4 46 rfl rfl, o_t1 1 rfl rfl, o_t4 47 rfl rfl⟩, ⟨rfl, by decide, by decide, by decide⟩, TX8, 11, rfl, by decide⟩
set_option maxRecDepth 20000 in
theorem m_L_137 : o_MV RL 137 RX9 yX9_pass cX9_pass 2 (some FieldType.int) 1 9 := ⟨⟨o_t6 94 rfl rfl, o_t6 95 rfl rfl, o_t6 96 rfl rfl, o_t1 10 rfl rfl, o_t6 97 rfl rfl⟩, ⟨rfl, by decide, by decide, by decide⟩, TX9, 28, rfl, by decide⟩
set_option maxRecDepth 20000 in
theorem m_L_138 : o_MV RL 138 RX8 yX8_box cX8_box 5 (some FieldType.int) 3 8 := ⟨⟨o_t4 48 rfl rfl, o_t4 49 rfl rfl, o_t4 50 rfl rfl, o_t1 1 rfl rfl, o_t4 51 rfl rfl⟩, ⟨rfl, by decide, by decide, by decide⟩, TX8, 11, rfl, by decide⟩
set_option maxRecDepth 20000 in
theorem m_L_141 : o_MV RL 141 RX9 yX9_box cX9_box 6 (some FieldType.int) 3 9 := ⟨⟨o_t6 98 rfl rfl, o_t6 99 rfl rfl, o_t6 100 rfl rfl, o_t1 10 rfl rfl, o_t6 101 rfl rfl⟩, ⟨rfl, by decide, by decide, by decide⟩, TX9, 28, rfl, by decide⟩
set_option maxRecDepth 20000 in
theorem m_L_142 : o_MV RL 142 RX8 yX8_put cX8_put 7 (some FieldType.int) 4 8 := ⟨⟨o_t4 67 rfl rfl, o_t4 68 rfl rfl, o_t4 69 rfl rfl, o_t1 1 rfl rfl, o_t4 70 rfl rfl⟩, ⟨rfl, by decide, by decide, by decide⟩, TX8, 11, rfl, by decide⟩
set_option maxRecDepth 20000 in
theorem m_L_145 : o_MV RL 145 RX9 yX9_put cX9_put 7 (some FieldType.int) 4 9 := ⟨⟨o_t6 109 rfl rfl, o_t6 110 rfl rfl, o_t6 111 rfl rfl, o_t1 10 rfl rfl, o_t6 112 rfl rfl⟩, ⟨rfl, by decide, by decide, by decide⟩, TX9, 28, rfl, by decide⟩
set_option maxRecDepth 20000 in
theorem m_L_146 : o_MV RL 146 RX8 yX8_look cX8_look 4 (some FieldType.int) 3 8 := ⟨⟨o_t4 81 rfl rfl, o_t4 82 rfl rfl, o_t4 83 rfl rfl, o_t1 1 rfl rfl, o_t4 84 rfl rfl⟩, ⟨rfl, by decide, by decide, by decide⟩, TX8, 11, rfl, by decide⟩
set_option maxRecDepth 20000 in
theorem m_L_149 : o_MV RL 149 RX9 yX9_look cX9_look 5 (some FieldType.int) 3 9 := ⟨⟨o_t6 117 rfl rfl, o_t6 118 rfl rfl, o_t6 119 rfl rfl, o_t1 10 rfl rfl, o_t6 120 rfl rfl⟩, ⟨rfl, by decide, by decide, by decide⟩, TX9, 28, rfl, by decide⟩
set_option maxRecDepth 20000 in
theorem m_L_150 : o_MV RL 150 RX8 yX8_likeBox cX8_likeBox 3 (some FieldType.int) 2 8 := ⟨⟨o_t4 85 rfl rfl, o_t4 86 rfl rfl, o_t4 87 rfl rfl, o_t1 1 rfl rfl, o_t4 88 rfl rfl⟩, ⟨rfl, by decide, by decide, by decide⟩, TX8, 11, rfl, by decide⟩
set_option maxRecDepth 20000 in
theorem m_L_153 : o_MV RL 153 RX9 yX9_likeBox cX9_likeBox 4 (some FieldType.int) 2 9 := ⟨⟨o_t6 121 rfl rfl, o_t6 122 rfl rfl, o_t6 123 rfl rfl, o_t1 10 rfl rfl, o_t6 124 rfl rfl⟩, ⟨rfl, by decide, by decide, by decide⟩, TX9, 28, rfl, by decide⟩
set_option maxRecDepth 20000 in
theorem m_L_154 : o_MV RL 154 RX8 yX8_append cX8_append 2 (some FieldType.int) 1 8 := ⟨⟨o_t4 94 rfl rfl, o_t4 95 rfl rfl, o_t4 96 rfl rfl, o_t1 1 rfl rfl, o_t4 97 rfl rfl⟩, ⟨rfl, by decide, by decide, by decide⟩, TX8, 11, rfl, by decide⟩
set_option maxRecDepth 20000 in
theorem m_L_157 : o_MV RL 157 RX9 yX9_append cX9_append 2 (some FieldType.int) 1 9 := ⟨⟨o_t6 125 rfl rfl, o_t6 126 rfl rfl, o_t6 127 rfl rfl, o_t1 10 rfl rfl, o_t6 128 rfl rfl⟩, ⟨rfl, by decide, by decide, by decide⟩, TX9, 28, rfl, by decide⟩
set_option maxRecDepth 20000 in
theorem m_L_158 : o_MV RL 158 RX8 yX8_read cX8_read 2 (some FieldType.int) 0 8 := ⟨⟨o_t4 102 rfl rfl, o_t4 103 rfl rfl, o_t4 104 rfl rfl, o_t1 1 rfl rfl, o_t4 105 rfl rfl⟩, ⟨rfl, by decide, by decide, by decide⟩, TX8, 11, rfl, by decide⟩
set_option maxRecDepth 20000 in
theorem m_L_162 : o_MV RL 162 RX9 yX9_read cX9_read 3 (some FieldType.int) 0 9 := ⟨⟨o_t6 129 rfl rfl, o_t6 130 rfl rfl, o_t6 131 rfl rfl, o_t1 10 rfl rfl, o_t6 132 rfl rfl⟩, ⟨rfl, by decide, by decide, by decide⟩, TX9, 28, rfl, by decide⟩
set_option maxRecDepth 20000 in
theorem m_L_163 : o_MV RL 163 RX8 yX8_faultPosition cX8_faultPosition 1 (some FieldType.int) 0 8 := ⟨⟨o_t4 194 rfl rfl, o_t4 195 rfl rfl, o_t4 196 rfl rfl, o_t1 1 rfl rfl, o_t4 197 rfl rfl⟩, ⟨rfl, by decide, by decide, by decide⟩, TX8, 11, rfl, by decide⟩
set_option maxRecDepth 20000 in
theorem m_L_166 : o_MV RL 166 RX9 yX9_faultPosition cX9_faultPosition 1 (some FieldType.int) 0 9 := ⟨⟨o_t6 184 rfl rfl, o_t6 185 rfl rfl, o_t6 186 rfl rfl, o_t1 10 rfl rfl, o_t6 187 rfl rfl⟩, ⟨rfl, by decide, by decide, by decide⟩, TX9, 28, rfl, by decide⟩
set_option maxRecDepth 20000 in
theorem m_L_167 : o_MV RL 167 RX8 yX8_failed cX8_failed 1 (some FieldType.int) 0 8 := ⟨⟨o_t4 198 rfl rfl, o_t4 199 rfl rfl, o_t4 200 rfl rfl, o_t1 1 rfl rfl, o_t4 201 rfl rfl⟩, ⟨rfl, by decide, by decide, by decide⟩, TX8, 11, rfl, by decide⟩
set_option maxRecDepth 20000 in
theorem m_L_170 : o_MV RL 170 RX9 yX9_failed cX9_failed 1 (some FieldType.int) 0 9 := ⟨⟨o_t6 188 rfl rfl, o_t6 189 rfl rfl, o_t6 190 rfl rfl, o_t1 10 rfl rfl, o_t6 191 rfl rfl⟩, ⟨rfl, by decide, by decide, by decide⟩, TX9, 28, rfl, by decide⟩
set_option maxRecDepth 20000 in
theorem m_L_171 : o_MV RL 171 RX8 yX8_refusal cX8_refusal 1 (some FieldType.int) 0 8 := ⟨⟨o_t4 202 rfl rfl, o_t4 203 rfl rfl, o_t4 204 rfl rfl, o_t1 1 rfl rfl, o_t4 205 rfl rfl⟩, ⟨rfl, by decide, by decide, by decide⟩, TX8, 11, rfl, by decide⟩
set_option maxRecDepth 20000 in
theorem m_L_174 : o_MV RL 174 RX9 yX9_refusal cX9_refusal 1 (some FieldType.int) 0 9 := ⟨⟨o_t6 192 rfl rfl, o_t6 193 rfl rfl, o_t6 194 rfl rfl, o_t1 10 rfl rfl, o_t6 195 rfl rfl⟩, ⟨rfl, by decide, by decide, by decide⟩, TX9, 28, rfl, by decide⟩
set_option maxRecDepth 20000 in
theorem m_L_175 : o_MV RL 175 RX8 yX8_count cX8_count 2 (some FieldType.int) 1 8 := ⟨⟨o_t4 206 rfl rfl, o_t4 207 rfl rfl, o_t4 208 rfl rfl, o_t1 1 rfl rfl, o_t4 209 rfl rfl⟩, ⟨rfl, by decide, by decide, by decide⟩, TX8, 11, rfl, by decide⟩
set_option maxRecDepth 20000 in
theorem m_L_178 : o_MV RL 178 RX9 yX9_count cX9_count 2 (some FieldType.int) 1 9 := ⟨⟨o_t6 196 rfl rfl, o_t6 197 rfl rfl, o_t6 198 rfl rfl, o_t1 10 rfl rfl, o_t6 199 rfl rfl⟩, ⟨rfl, by decide, by decide, by decide⟩, TX9, 28, rfl, by decide⟩
set_option maxRecDepth 20000 in
theorem m_L_179 : o_MV RL 179 RX8 yX8_undo cX8_undo 1 (some FieldType.int) 0 8 := ⟨⟨o_t4 223 rfl rfl, o_t4 224 rfl rfl, o_t4 225 rfl rfl, o_t1 1 rfl rfl, o_t4 226 rfl rfl⟩, ⟨rfl, by decide, by decide, by decide⟩, TX8, 11, rfl, by decide⟩
set_option maxRecDepth 20000 in
theorem m_L_182 : o_MV RL 182 RX9 yX9_undo cX9_undo 1 (some FieldType.int) 0 9 := ⟨⟨o_t6 209 rfl rfl, o_t6 210 rfl rfl, o_t6 211 rfl rfl, o_t1 10 rfl rfl, o_t6 212 rfl rfl⟩, ⟨rfl, by decide, by decide, by decide⟩, TX9, 28, rfl, by decide⟩
set_option maxRecDepth 20000 in
theorem m_L_183 : o_MV RL 183 RX8 yX8_save cX8_save 1 (some FieldType.int) 0 8 := ⟨⟨o_t4 232 rfl rfl, o_t4 233 rfl rfl, o_t4 234 rfl rfl, o_t1 1 rfl rfl, o_t4 235 rfl rfl⟩, ⟨rfl, by decide, by decide, by decide⟩, TX8, 11, rfl, by decide⟩
set_option maxRecDepth 20000 in
theorem m_L_186 : o_MV RL 186 RX9 yX9_save cX9_save 1 (some FieldType.int) 0 9 := ⟨⟨o_t6 213 rfl rfl, o_t6 214 rfl rfl, o_t6 215 rfl rfl, o_t1 10 rfl rfl, o_t6 216 rfl rfl⟩, ⟨rfl, by decide, by decide, by decide⟩, TX9, 28, rfl, by decide⟩
set_option maxRecDepth 20000 in
theorem m_L_187 : o_MV RL 187 RX8 yX8_restore cX8_restore 1 (some FieldType.int) 0 8 := ⟨⟨o_t4 237 rfl rfl, o_t4 238 rfl rfl, o_t4 239 rfl rfl, o_t1 1 rfl rfl, o_t5 0 rfl rfl⟩, ⟨rfl, by decide, by decide, by decide⟩, TX8, 11, rfl, by decide⟩
set_option maxRecDepth 20000 in
theorem m_L_190 : o_MV RL 190 RX9 yX9_restore cX9_restore 1 (some FieldType.int) 0 9 := ⟨⟨o_t6 217 rfl rfl, o_t6 218 rfl rfl, o_t6 219 rfl rfl, o_t1 10 rfl rfl, o_t6 220 rfl rfl⟩, ⟨rfl, by decide, by decide, by decide⟩, TX9, 28, rfl, by decide⟩
set_option maxRecDepth 20000 in
theorem m_X9_97 : o_MS RX9 97 yX9_copies cX9_copies 5 none 4 := ⟨⟨o_t5 111 rfl rfl, o_t5 112 rfl rfl, o_t1 10 rfl rfl, o_t5 113 rfl rfl⟩, rfl, by decide, by decide, by decide⟩
set_option maxRecDepth 20000 in
theorem m_X9_101 : o_MV RX9 101 RX9 yX9_keepsFrom cX9_keepsFrom 3 (some FieldType.int) 1 9 := ⟨⟨o_t5 107 rfl rfl, o_t5 109 rfl rfl, o_sel 31 rfl rfl, o_t1 10 rfl rfl, o_t5 110 rfl rfl⟩, ⟨rfl, by decide, by decide, by decide⟩, TX9, 28, rfl, by decide⟩
set_option maxRecDepth 20000 in
theorem m_X9_105 : o_MS RX9 105 yX9_at cX9_at 2 (some FieldType.int) 2 := ⟨⟨o_t5 100 rfl rfl, o_t5 101 rfl rfl, o_t1 10 rfl rfl, o_t5 102 rfl rfl⟩, rfl, by decide, by decide, by decide⟩
set_option maxRecDepth 20000 in
theorem m_X9_108 : o_MS RX9 108 yX9_in cX9_in 3 (some FieldType.boolean) 3 := ⟨⟨o_t5 97 rfl rfl, o_t5 98 rfl rfl, o_t1 10 rfl rfl, o_t5 99 rfl rfl⟩, rfl, by decide, by decide, by decide⟩
set_option maxRecDepth 20000 in
theorem m_X9_112 : o_MV RX9 112 RX9 yX9_isEdition cX9_isEdition 2 (some FieldType.boolean) 1 9 := ⟨⟨o_t5 121 rfl rfl, o_t5 123 rfl rfl, o_sel 32 rfl rfl, o_t1 10 rfl rfl, o_t5 124 rfl rfl⟩, ⟨rfl, by decide, by decide, by decide⟩, TX9, 28, rfl, by decide⟩
set_option maxRecDepth 20000 in
theorem m_X9_116 : o_MV RX9 116 RX9 yX9_bars cX9_bars 2 (some FieldType.int) 1 9 := ⟨⟨o_t5 133 rfl rfl, o_t5 135 rfl rfl, o_sel 34 rfl rfl, o_t1 10 rfl rfl, o_t5 136 rfl rfl⟩, ⟨rfl, by decide, by decide, by decide⟩, TX9, 28, rfl, by decide⟩
set_option maxRecDepth 20000 in
theorem m_X9_120 : o_MV RX9 120 RX9 yX9_bought cX9_bought 3 (some FieldType.int) 2 9 := ⟨⟨o_t5 141 rfl rfl, o_t5 143 rfl rfl, o_sel 36 rfl rfl, o_t1 10 rfl rfl, o_t5 144 rfl rfl⟩, ⟨rfl, by decide, by decide, by decide⟩, TX9, 28, rfl, by decide⟩
set_option maxRecDepth 20000 in
theorem m_X9_123 : o_MV RX9 123 RX9 yX9_outOf cX9_outOf 3 (some FieldType.int) 2 9 := ⟨⟨o_t6 28 rfl rfl, o_t6 30 rfl rfl, o_sel 48 rfl rfl, o_t1 10 rfl rfl, o_t6 31 rfl rfl⟩, ⟨rfl, by decide, by decide, by decide⟩, TX9, 28, rfl, by decide⟩
set_option maxRecDepth 20000 in
theorem m_X9_126 : o_MV RX9 126 RX9 yX9_lostOf cX9_lostOf 3 (some FieldType.int) 2 9 := ⟨⟨o_t6 32 rfl rfl, o_t6 34 rfl rfl, o_sel 49 rfl rfl, o_t1 10 rfl rfl, o_t6 35 rfl rfl⟩, ⟨rfl, by decide, by decide, by decide⟩, TX9, 28, rfl, by decide⟩
set_option maxRecDepth 20000 in
theorem m_X9_129 : o_MV RX9 129 RX9 yX9_keeps cX9_keeps 1 none 0 9 := ⟨⟨o_t5 103 rfl rfl, o_t5 105 rfl rfl, o_sel 30 rfl rfl, o_t1 10 rfl rfl, o_t5 106 rfl rfl⟩, ⟨rfl, by decide, by decide, by decide⟩, TX9, 28, rfl, by decide⟩
set_option maxRecDepth 20000 in
theorem m_X9_132 : o_MS RX9 132 yX9_placeOf cX9_placeOf 2 (some FieldType.int) 2 := ⟨⟨o_t5 114 rfl rfl, o_t5 115 rfl rfl, o_t1 10 rfl rfl, o_t5 116 rfl rfl⟩, rfl, by decide, by decide, by decide⟩
set_option maxRecDepth 20000 in
theorem m_X9_135 : o_MV RX9 135 RX9 yX9_isBar cX9_isBar 3 (some FieldType.boolean) 2 9 := ⟨⟨o_t5 129 rfl rfl, o_t5 131 rfl rfl, o_sel 33 rfl rfl, o_t1 10 rfl rfl, o_t5 132 rfl rfl⟩, ⟨rfl, by decide, by decide, by decide⟩, TX9, 28, rfl, by decide⟩
set_option maxRecDepth 20000 in
theorem m_X9_139 : o_MV RX9 139 RX9 yX9_boughtAll cX9_boughtAll 4 (some FieldType.int) 1 9 := ⟨⟨o_t5 137 rfl rfl, o_t5 139 rfl rfl, o_sel 35 rfl rfl, o_t1 10 rfl rfl, o_t5 140 rfl rfl⟩, ⟨rfl, by decide, by decide, by decide⟩, TX9, 28, rfl, by decide⟩
set_option maxRecDepth 20000 in
theorem m_X9_142 : o_MV RX9 142 RX9 yX9_refuses cX9_refuses 2 (some FieldType.int) 1 9 := ⟨⟨o_t5 145 rfl rfl, o_t5 147 rfl rfl, o_sel 37 rfl rfl, o_t1 10 rfl rfl, o_t5 148 rfl rfl⟩, ⟨rfl, by decide, by decide, by decide⟩, TX9, 28, rfl, by decide⟩
set_option maxRecDepth 20000 in
theorem m_X9_145 : o_MV RX9 145 RX9 yX9_movesBar cX9_movesBar 5 none 3 9 := ⟨⟨o_t5 149 rfl rfl, o_t5 151 rfl rfl, o_sel 38 rfl rfl, o_t1 10 rfl rfl, o_t5 152 rfl rfl⟩, ⟨rfl, by decide, by decide, by decide⟩, TX9, 28, rfl, by decide⟩
set_option maxRecDepth 20000 in
theorem m_X9_149 : o_MV RX9 149 RX9 yX9_bowingsOf cX9_bowingsOf 5 (some FieldType.int) 1 9 := ⟨⟨o_t5 165 rfl rfl, o_t5 167 rfl rfl, o_sel 39 rfl rfl, o_t1 10 rfl rfl, o_t5 168 rfl rfl⟩, ⟨rfl, by decide, by decide, by decide⟩, TX9, 28, rfl, by decide⟩
set_option maxRecDepth 20000 in
theorem m_X9_152 : o_MV RX9 152 RX9 yX9_tempoAt cX9_tempoAt 4 (some FieldType.int) 2 9 := ⟨⟨o_t5 173 rfl rfl, o_t5 175 rfl rfl, o_sel 40 rfl rfl, o_t1 10 rfl rfl, o_t5 176 rfl rfl⟩, ⟨rfl, by decide, by decide, by decide⟩, TX9, 28, rfl, by decide⟩
set_option maxRecDepth 20000 in
theorem m_X9_155 : o_MV RX9 155 RX9 yX9_areOfOneWork cX9_areOfOneWork 3 (some FieldType.boolean) 2 9 := ⟨⟨o_t5 181 rfl rfl, o_t5 183 rfl rfl, o_sel 41 rfl rfl, o_t1 10 rfl rfl, o_t5 184 rfl rfl⟩, ⟨rfl, by decide, by decide, by decide⟩, TX9, 28, rfl, by decide⟩
set_option maxRecDepth 20000 in
theorem m_X9_158 : o_MV RX9 158 RX9 yX9_carried cX9_carried 5 (some FieldType.int) 3 9 := ⟨⟨o_t5 185 rfl rfl, o_t5 187 rfl rfl, o_sel 42 rfl rfl, o_t1 10 rfl rfl, o_t5 188 rfl rfl⟩, ⟨rfl, by decide, by decide, by decide⟩, TX9, 28, rfl, by decide⟩
set_option maxRecDepth 20000 in
theorem m_X9_162 : o_MV RX9 162 RX9 yX9_adds cX9_adds 5 none 4 9 := ⟨⟨o_t5 197 rfl rfl, o_t5 199 rfl rfl, o_sel 44 rfl rfl, o_t1 10 rfl rfl, o_t5 200 rfl rfl⟩, ⟨rfl, by decide, by decide, by decide⟩, TX9, 28, rfl, by decide⟩
set_option maxRecDepth 20000 in
theorem m_X9_166 : o_MV RX9 166 RX9 yX9_isSame cX9_isSame 5 (some FieldType.boolean) 4 9 := ⟨⟨o_t5 201 rfl rfl, o_t5 203 rfl rfl, o_sel 45 rfl rfl, o_t1 10 rfl rfl, o_t5 204 rfl rfl⟩, ⟨rfl, by decide, by decide, by decide⟩, TX9, 28, rfl, by decide⟩
set_option maxRecDepth 20000 in
theorem m_X9_170 : o_MV RX9 170 RX9 yX9_finds cX9_finds 7 none 2 9 := ⟨⟨o_t5 193 rfl rfl, o_t5 195 rfl rfl, o_sel 43 rfl rfl, o_t1 10 rfl rfl, o_t5 196 rfl rfl⟩, ⟨rfl, by decide, by decide, by decide⟩, TX9, 28, rfl, by decide⟩
set_option maxRecDepth 20000 in
theorem m_X9_176 : o_MV RX9 176 RX9 yX9_duration cX9_duration 6 (some FieldType.float) 3 9 := ⟨⟨o_t5 217 rfl rfl, o_t5 219 rfl rfl, o_sel 46 rfl rfl, o_t1 10 rfl rfl, o_t5 220 rfl rfl⟩, ⟨rfl, by decide, by decide, by decide⟩, TX9, 28, rfl, by decide⟩
set_option maxRecDepth 20000 in
theorem m_X9_186 : o_MS RX9 186 yX9_isInstrument cX9_isInstrument 1 (some FieldType.boolean) 1 := ⟨⟨o_t6 9 rfl rfl, o_t6 10 rfl rfl, o_t1 10 rfl rfl, o_t6 11 rfl rfl⟩, rfl, by decide, by decide, by decide⟩
set_option maxRecDepth 20000 in
theorem m_X9_189 : o_MV RX9 189 RX9 yX9_inOf cX9_inOf 3 (some FieldType.int) 2 9 := ⟨⟨o_t6 24 rfl rfl, o_t6 26 rfl rfl, o_sel 47 rfl rfl, o_t1 10 rfl rfl, o_t6 27 rfl rfl⟩, ⟨rfl, by decide, by decide, by decide⟩, TX9, 28, rfl, by decide⟩
set_option maxRecDepth 20000 in
theorem m_X9_192 : o_MS RX9 192 yX9_loanAt cX9_loanAt 2 (some FieldType.int) 2 := ⟨⟨o_t6 60 rfl rfl, o_t6 61 rfl rfl, o_t1 10 rfl rfl, o_t6 62 rfl rfl⟩, rfl, by decide, by decide, by decide⟩
set_option maxRecDepth 20000 in
theorem m_X9_195 : o_MV RX9 195 RX9 yX9_isOverdue cX9_isOverdue 2 (some FieldType.boolean) 1 9 := ⟨⟨o_t6 63 rfl rfl, o_t6 65 rfl rfl, o_sel 51 rfl rfl, o_t1 10 rfl rfl, o_t6 66 rfl rfl⟩, ⟨rfl, by decide, by decide, by decide⟩, TX9, 28, rfl, by decide⟩
set_option maxRecDepth 20000 in
theorem m_X9_198 : o_MV RX9 198 RX9 yX9_owes cX9_owes 3 (some FieldType.boolean) 1 9 := ⟨⟨o_t6 56 rfl rfl, o_t6 58 rfl rfl, o_sel 50 rfl rfl, o_t1 10 rfl rfl, o_t6 59 rfl rfl⟩, ⟨rfl, by decide, by decide, by decide⟩, TX9, 28, rfl, by decide⟩
set_option maxRecDepth 20000 in
theorem m_X9_201 : o_MV RX9 201 RX9 yX9_lends cX9_lends 9 (some FieldType.int) 5 9 := ⟨⟨o_t6 67 rfl rfl, o_t6 69 rfl rfl, o_sel 52 rfl rfl, o_t1 10 rfl rfl, o_t6 70 rfl rfl⟩, ⟨rfl, by decide, by decide, by decide⟩, TX9, 28, rfl, by decide⟩
set_option maxRecDepth 20000 in
theorem m_X9_205 : o_MV RX9 205 RX9 yX9_needs cX9_needs 3 (some FieldType.int) 1 9 := ⟨⟨o_t6 75 rfl rfl, o_t6 13 rfl rfl, o_t6 14 rfl rfl, o_t1 10 rfl rfl, o_t6 15 rfl rfl⟩, ⟨rfl, by decide, by decide, by decide⟩, TX9, 28, rfl, by decide⟩
set_option maxRecDepth 20000 in
theorem m_X9_216 : o_MS RX9 216 yX9_isBox cX9_isBox 1 (some FieldType.boolean) 1 := ⟨⟨o_t6 102 rfl rfl, o_t6 103 rfl rfl, o_t1 10 rfl rfl, o_t6 104 rfl rfl⟩, rfl, by decide, by decide, by decide⟩
set_option maxRecDepth 20000 in
theorem m_X9_219 : o_MV RX9 219 RX9 yX9_things cX9_things 4 (some FieldType.int) 1 9 := ⟨⟨o_t6 105 rfl rfl, o_t6 107 rfl rfl, o_sel 53 rfl rfl, o_t1 10 rfl rfl, o_t6 108 rfl rfl⟩, ⟨rfl, by decide, by decide, by decide⟩, TX9, 28, rfl, by decide⟩
set_option maxRecDepth 20000 in
theorem m_X9_222 : o_MV RX9 222 RX9 yX9_isPlace cX9_isPlace 3 (some FieldType.boolean) 2 9 := ⟨⟨o_t6 113 rfl rfl, o_t6 115 rfl rfl, o_sel 54 rfl rfl, o_t1 10 rfl rfl, o_t6 116 rfl rfl⟩, ⟨rfl, by decide, by decide, by decide⟩, TX9, 28, rfl, by decide⟩
set_option maxRecDepth 20000 in
theorem m_X9_225 : o_MV RX9 225 RX9 yX9_sign cX9_sign 1 (some FieldType.int) 0 9 := ⟨⟨o_t6 141 rfl rfl, o_t6 143 rfl rfl, o_sel 57 rfl rfl, o_t1 10 rfl rfl, o_t6 144 rfl rfl⟩, ⟨rfl, by decide, by decide, by decide⟩, TX9, 28, rfl, by decide⟩
set_option maxRecDepth 20000 in
theorem m_X9_229 : o_MV RX9 229 RX9 yX9_digits cX9_digits 4 (some FieldType.int) 1 9 := ⟨⟨o_t6 149 rfl rfl, o_t6 151 rfl rfl, o_sel 59 rfl rfl, o_t1 10 rfl rfl, o_t6 152 rfl rfl⟩, ⟨rfl, by decide, by decide, by decide⟩, TX9, 28, rfl, by decide⟩
set_option maxRecDepth 20000 in
theorem m_X9_232 : o_MV RX9 232 RX9 yX9_lays cX9_lays 2 none 1 9 := ⟨⟨o_t6 153 rfl rfl, o_t6 155 rfl rfl, o_sel 60 rfl rfl, o_t1 10 rfl rfl, o_t6 156 rfl rfl⟩, ⟨rfl, by decide, by decide, by decide⟩, TX9, 28, rfl, by decide⟩
set_option maxRecDepth 20000 in
theorem m_X9_236 : o_MV RX9 236 RX9 yX9_takes cX9_takes 2 none 1 9 := ⟨⟨o_t6 165 rfl rfl, o_t6 167 rfl rfl, o_sel 63 rfl rfl, o_t1 10 rfl rfl, o_t6 168 rfl rfl⟩, ⟨rfl, by decide, by decide, by decide⟩, TX9, 28, rfl, by decide⟩
set_option maxRecDepth 20000 in
theorem m_X9_239 : o_MV RX9 239 RX9 yX9_number cX9_number 1 none 0 9 := ⟨⟨o_t6 145 rfl rfl, o_t6 147 rfl rfl, o_sel 58 rfl rfl, o_t1 10 rfl rfl, o_t6 148 rfl rfl⟩, ⟨rfl, by decide, by decide, by decide⟩, TX9, 28, rfl, by decide⟩
set_option maxRecDepth 20000 in
theorem m_X9_241 : o_MV RX9 241 RX9 yX9_digit cX9_digit 1 none 0 9 := ⟨⟨o_t6 157 rfl rfl, o_t6 159 rfl rfl, o_sel 61 rfl rfl, o_t1 10 rfl rfl, o_t6 160 rfl rfl⟩, ⟨rfl, by decide, by decide, by decide⟩, TX9, 28, rfl, by decide⟩
set_option maxRecDepth 20000 in
theorem m_X9_244 : o_MV RX9 244 RX9 yX9_digitBehind cX9_digitBehind 2 none 1 9 := ⟨⟨o_t6 161 rfl rfl, o_t6 163 rfl rfl, o_sel 62 rfl rfl, o_t1 10 rfl rfl, o_t6 164 rfl rfl⟩, ⟨rfl, by decide, by decide, by decide⟩, TX9, 28, rfl, by decide⟩
set_option maxRecDepth 20000 in
theorem m_X9_247 : o_MV RX9 247 RX9 yX9_numberBehind cX9_numberBehind 2 none 1 9 := ⟨⟨o_t6 169 rfl rfl, o_t6 171 rfl rfl, o_sel 64 rfl rfl, o_t1 10 rfl rfl, o_t6 172 rfl rfl⟩, ⟨rfl, by decide, by decide, by decide⟩, TX9, 28, rfl, by decide⟩
set_option maxRecDepth 20000 in
theorem m_X9_250 : o_MV RX9 250 RX9 yX9_command cX9_command 2 none 0 9 := ⟨⟨o_t6 137 rfl rfl, o_t6 139 rfl rfl, o_sel 56 rfl rfl, o_t1 10 rfl rfl, o_t6 140 rfl rfl⟩, ⟨rfl, by decide, by decide, by decide⟩, TX9, 28, rfl, by decide⟩
set_option maxRecDepth 20000 in
theorem m_X9_253 : o_MV RX9 253 RX9 yX9_cut cX9_cut 6 (some FieldType.int) 3 9 := ⟨⟨o_t6 177 rfl rfl, o_t5 126 rfl rfl, o_t5 127 rfl rfl, o_t1 10 rfl rfl, o_t5 128 rfl rfl⟩, ⟨rfl, by decide, by decide, by decide⟩, TX9, 28, rfl, by decide⟩
set_option maxRecDepth 20000 in
theorem m_X9_256 : o_MV RX9 256 RX9 yX9_insert cX9_insert 8 (some FieldType.int) 4 9 := ⟨⟨o_t6 178 rfl rfl, o_t5 154 rfl rfl, o_t5 155 rfl rfl, o_t1 10 rfl rfl, o_t5 156 rfl rfl⟩, ⟨rfl, by decide, by decide, by decide⟩, TX9, 28, rfl, by decide⟩
set_option maxRecDepth 20000 in
theorem m_X9_260 : o_MV RX9 260 RX9 yX9_rework cX9_rework 5 (some FieldType.int) 3 9 := ⟨⟨o_t6 179 rfl rfl, o_t5 158 rfl rfl, o_t5 159 rfl rfl, o_t1 10 rfl rfl, o_t5 160 rfl rfl⟩, ⟨rfl, by decide, by decide, by decide⟩, TX9, 28, rfl, by decide⟩
set_option maxRecDepth 20000 in
theorem m_X9_263 : o_MV RX9 263 RX9 yX9_tempo cX9_tempo 5 (some FieldType.int) 3 9 := ⟨⟨o_t6 180 rfl rfl, o_t5 210 rfl rfl, o_t5 211 rfl rfl, o_t1 10 rfl rfl, o_t5 212 rfl rfl⟩, ⟨rfl, by decide, by decide, by decide⟩, TX9, 28, rfl, by decide⟩
set_option maxRecDepth 20000 in
theorem m_X9_266 : o_MV RX9 266 RX9 yX9_bow cX9_bow 7 (some FieldType.int) 4 9 := ⟨⟨o_t6 181 rfl rfl, o_t6 37 rfl rfl, o_t6 38 rfl rfl, o_t1 10 rfl rfl, o_t6 39 rfl rfl⟩, ⟨rfl, by decide, by decide, by decide⟩, TX9, 28, rfl, by decide⟩
set_option maxRecDepth 20000 in
theorem m_X9_269 : o_MV RX9 269 RX9 yX9_lend cX9_lend 6 (some FieldType.int) 5 9 := ⟨⟨o_t6 182 rfl rfl, o_t6 53 rfl rfl, o_t6 54 rfl rfl, o_t1 10 rfl rfl, o_t6 55 rfl rfl⟩, ⟨rfl, by decide, by decide, by decide⟩, TX9, 28, rfl, by decide⟩
set_option maxRecDepth 20000 in
theorem m_X9_272 : o_MV RX9 272 RX9 yX9_bring cX9_bring 7 (some FieldType.int) 3 9 := ⟨⟨o_t6 183 rfl rfl, o_t6 77 rfl rfl, o_t6 78 rfl rfl, o_t1 10 rfl rfl, o_t6 79 rfl rfl⟩, ⟨rfl, by decide, by decide, by decide⟩, TX9, 28, rfl, by decide⟩
set_option maxRecDepth 20000 in
theorem m_X9_275 : o_MV RX9 275 RX9 yX9_isWrong cX9_isWrong 1 (some FieldType.boolean) 0 9 := ⟨⟨o_t6 133 rfl rfl, o_t6 135 rfl rfl, o_sel 55 rfl rfl, o_t1 10 rfl rfl, o_t6 136 rfl rfl⟩, ⟨rfl, by decide, by decide, by decide⟩, TX9, 28, rfl, by decide⟩
set_option maxRecDepth 20000 in
theorem m_X9_279 : o_MV RX9 279 RX9 yX9_does cX9_does 6 (some FieldType.int) 1 9 := ⟨⟨o_t6 173 rfl rfl, o_t6 175 rfl rfl, o_sel 65 rfl rfl, o_t1 10 rfl rfl, o_t6 176 rfl rfl⟩, ⟨rfl, by decide, by decide, by decide⟩, TX9, 28, rfl, by decide⟩
set_option maxRecDepth 20000 in
theorem m_X9_282 : o_MV RX9 282 RX9 yX9_stock cX9_stock 4 (some FieldType.int) 3 9 := ⟨⟨o_t6 208 rfl rfl, o_t6 21 rfl rfl, o_t6 22 rfl rfl, o_t1 10 rfl rfl, o_t6 23 rfl rfl⟩, ⟨rfl, by decide, by decide, by decide⟩, TX9, 28, rfl, by decide⟩
set_option maxRecDepth 20000 in
theorem m_X9_285 : o_MV RX9 285 RX9 yX9_loans cX9_loans 4 (some FieldType.int) 1 9 := ⟨⟨o_t6 200 rfl rfl, o_t6 202 rfl rfl, o_sel 66 rfl rfl, o_t1 10 rfl rfl, o_t6 203 rfl rfl⟩, ⟨rfl, by decide, by decide, by decide⟩, TX9, 28, rfl, by decide⟩
set_option maxRecDepth 20000 in
theorem m_X9_289 : o_MV RX9 289 RX9 yX9_copiesOf cX9_copiesOf 5 (some FieldType.int) 1 9 := ⟨⟨o_t6 204 rfl rfl, o_t6 206 rfl rfl, o_sel 67 rfl rfl, o_t1 10 rfl rfl, o_t6 207 rfl rfl⟩, ⟨rfl, by decide, by decide, by decide⟩, TX9, 28, rfl, by decide⟩
set_option maxRecDepth 20000 in
theorem k_X8_237 : Cond.constant RX8 237 (Int32.ofInt 8388607) ∈ oALL := o_t3 112 rfl rfl
set_option maxRecDepth 20000 in
theorem k_X9_19 : Cond.constant RX9 19 (Int32.ofInt 40440) ∈ oALL := o_t5 7 rfl rfl
set_option maxRecDepth 20000 in
theorem k_X8_235 : Cond.constantFloat RX8 235 1114636288 ∈ oALL := o_t3 138 rfl rfl
set_option maxRecDepth 20000 in
theorem k_X8_236 : Cond.constantFloat RX8 236 1258291200 ∈ oALL := o_t3 111 rfl rfl
set_option maxRecDepth 20000 in
theorem k_X4_84 : Cond.constantFloat RX4 84 1114636288 ∈ oALL := o_t3 106 rfl rfl
set_option maxRecDepth 20000 in
theorem k_X4_85 : Cond.constantFloat RX4 85 1092616192 ∈ oALL := o_t3 107 rfl rfl
set_option maxRecDepth 20000 in
theorem k_X9_174 : Cond.constantFloat RX9 174 1114636288 ∈ oALL := o_t5 221 rfl rfl
set_option maxRecDepth 20000 in
theorem k_X9_175 : Cond.constantFloat RX9 175 1092616192 ∈ oALL := o_t5 222 rfl rfl
