theorem fi_X1_9 : FI RX1 9 1 0 true (.array .int) := ⟨RX1, TX1, 4, rfl, by decide, kf_X1_9, ku_X1, rfl, tyX1_ok 0 (by decide), ⟨tyX1, tyX1_ok⟩, nmX1, rfl⟩
theorem fi_X3_103 : FI RX3 103 1 0 true (.array .int) := ⟨RX1, TX1, 4, rfl, by decide, kf_X3_103, ku_X1, rfl, tyX1_ok 0 (by decide), ⟨tyX1, tyX1_ok⟩, nmX1, rfl⟩
theorem fi_X6_207 : FI RX6 207 1 0 true (.array .int) := ⟨RX1, TX1, 4, rfl, by decide, kf_X6_207, ku_X1, rfl, tyX1_ok 0 (by decide), ⟨tyX1, tyX1_ok⟩, nmX1, rfl⟩
theorem fi_X1_15 : FI RX1 15 1 1 true (.array .int) := ⟨RX1, TX1, 4, rfl, by decide, kf_X1_15, ku_X1, rfl, tyX1_ok 1 (by decide), ⟨tyX1, tyX1_ok⟩, nmX1, rfl⟩
theorem fi_X3_106 : FI RX3 106 1 1 true (.array .int) := ⟨RX1, TX1, 4, rfl, by decide, kf_X3_106, ku_X1, rfl, tyX1_ok 1 (by decide), ⟨tyX1, tyX1_ok⟩, nmX1, rfl⟩
theorem fi_X6_210 : FI RX6 210 1 1 true (.array .int) := ⟨RX1, TX1, 4, rfl, by decide, kf_X6_210, ku_X1, rfl, tyX1_ok 1 (by decide), ⟨tyX1, tyX1_ok⟩, nmX1, rfl⟩
theorem fi_X1_18 : FI RX1 18 1 2 true (.array .int) := ⟨RX1, TX1, 4, rfl, by decide, kf_X1_18, ku_X1, rfl, tyX1_ok 2 (by decide), ⟨tyX1, tyX1_ok⟩, nmX1, rfl⟩
theorem fi_X3_107 : FI RX3 107 1 2 true (.array .int) := ⟨RX1, TX1, 4, rfl, by decide, kf_X3_107, ku_X1, rfl, tyX1_ok 2 (by decide), ⟨tyX1, tyX1_ok⟩, nmX1, rfl⟩
theorem fi_X6_211 : FI RX6 211 1 2 true (.array .int) := ⟨RX1, TX1, 4, rfl, by decide, kf_X6_211, ku_X1, rfl, tyX1_ok 2 (by decide), ⟨tyX1, tyX1_ok⟩, nmX1, rfl⟩
theorem fi_X1_21 : FI RX1 21 1 3 true (.array .int) := ⟨RX1, TX1, 4, rfl, by decide, kf_X1_21, ku_X1, rfl, tyX1_ok 3 (by decide), ⟨tyX1, tyX1_ok⟩, nmX1, rfl⟩
theorem fi_X3_108 : FI RX3 108 1 3 true (.array .int) := ⟨RX1, TX1, 4, rfl, by decide, kf_X3_108, ku_X1, rfl, tyX1_ok 3 (by decide), ⟨tyX1, tyX1_ok⟩, nmX1, rfl⟩
theorem fi_X6_212 : FI RX6 212 1 3 true (.array .int) := ⟨RX1, TX1, 4, rfl, by decide, kf_X6_212, ku_X1, rfl, tyX1_ok 3 (by decide), ⟨tyX1, tyX1_ok⟩, nmX1, rfl⟩
theorem fi_X3_9 : FI RX3 9 3 0 true (.array .int) := ⟨RX3, TX3, 13, rfl, by decide, kf_X3_9, ku_X3, rfl, tyX3_ok 0 (by decide), ⟨tyX3, tyX3_ok⟩, nmX3, rfl⟩
theorem fi_X6_56 : FI RX6 56 3 0 true (.array .int) := ⟨RX3, TX3, 13, rfl, by decide, kf_X6_56, ku_X3, rfl, tyX3_ok 0 (by decide), ⟨tyX3, tyX3_ok⟩, nmX3, rfl⟩
theorem fi_X4_49 : FI RX4 49 3 0 true (.array .int) := ⟨RX3, TX3, 13, rfl, by decide, kf_X4_49, ku_X3, rfl, tyX3_ok 0 (by decide), ⟨tyX3, tyX3_ok⟩, nmX3, rfl⟩
theorem fi_X2_54 : FI RX2 54 3 0 true (.array .int) := ⟨RX3, TX3, 13, rfl, by decide, kf_X2_54, ku_X3, rfl, tyX3_ok 0 (by decide), ⟨tyX3, tyX3_ok⟩, nmX3, rfl⟩
theorem fi_X3_15 : FI RX3 15 3 1 true (.array .int) := ⟨RX3, TX3, 13, rfl, by decide, kf_X3_15, ku_X3, rfl, tyX3_ok 1 (by decide), ⟨tyX3, tyX3_ok⟩, nmX3, rfl⟩
theorem fi_X6_71 : FI RX6 71 3 1 true (.array .int) := ⟨RX3, TX3, 13, rfl, by decide, kf_X6_71, ku_X3, rfl, tyX3_ok 1 (by decide), ⟨tyX3, tyX3_ok⟩, nmX3, rfl⟩
theorem fi_X4_46 : FI RX4 46 3 1 true (.array .int) := ⟨RX3, TX3, 13, rfl, by decide, kf_X4_46, ku_X3, rfl, tyX3_ok 1 (by decide), ⟨tyX3, tyX3_ok⟩, nmX3, rfl⟩
theorem fi_X2_61 : FI RX2 61 3 1 true (.array .int) := ⟨RX3, TX3, 13, rfl, by decide, kf_X2_61, ku_X3, rfl, tyX3_ok 1 (by decide), ⟨tyX3, tyX3_ok⟩, nmX3, rfl⟩
theorem fi_X3_18 : FI RX3 18 3 2 false .int := ⟨RX3, TX3, 13, rfl, by decide, kf_X3_18, ku_X3, rfl, tyX3_ok 2 (by decide), ⟨tyX3, tyX3_ok⟩, nmX3, rfl⟩
theorem fi_X2_24 : FI RX2 24 3 2 false .int := ⟨RX3, TX3, 13, rfl, by decide, kf_X2_24, ku_X3, rfl, tyX3_ok 2 (by decide), ⟨tyX3, tyX3_ok⟩, nmX3, rfl⟩
theorem fi_X6_93 : FI RX6 93 3 2 false .int := ⟨RX3, TX3, 13, rfl, by decide, kf_X6_93, ku_X3, rfl, tyX3_ok 2 (by decide), ⟨tyX3, tyX3_ok⟩, nmX3, rfl⟩
theorem fi_X3_22 : FI RX3 22 3 3 true (.array .int) := ⟨RX3, TX3, 13, rfl, by decide, kf_X3_22, ku_X3, rfl, tyX3_ok 3 (by decide), ⟨tyX3, tyX3_ok⟩, nmX3, rfl⟩
theorem fi_X6_118 : FI RX6 118 3 3 true (.array .int) := ⟨RX3, TX3, 13, rfl, by decide, kf_X6_118, ku_X3, rfl, tyX3_ok 3 (by decide), ⟨tyX3, tyX3_ok⟩, nmX3, rfl⟩
theorem fi_X3_25 : FI RX3 25 3 4 true (.array .int) := ⟨RX3, TX3, 13, rfl, by decide, kf_X3_25, ku_X3, rfl, tyX3_ok 4 (by decide), ⟨tyX3, tyX3_ok⟩, nmX3, rfl⟩
theorem fi_X2_28 : FI RX2 28 3 4 true (.array .int) := ⟨RX3, TX3, 13, rfl, by decide, kf_X2_28, ku_X3, rfl, tyX3_ok 4 (by decide), ⟨tyX3, tyX3_ok⟩, nmX3, rfl⟩
theorem fi_X6_103 : FI RX6 103 3 4 true (.array .int) := ⟨RX3, TX3, 13, rfl, by decide, kf_X6_103, ku_X3, rfl, tyX3_ok 4 (by decide), ⟨tyX3, tyX3_ok⟩, nmX3, rfl⟩
theorem fi_X3_28 : FI RX3 28 3 5 true (.array .int) := ⟨RX3, TX3, 13, rfl, by decide, kf_X3_28, ku_X3, rfl, tyX3_ok 5 (by decide), ⟨tyX3, tyX3_ok⟩, nmX3, rfl⟩
theorem fi_X2_31 : FI RX2 31 3 5 true (.array .int) := ⟨RX3, TX3, 13, rfl, by decide, kf_X2_31, ku_X3, rfl, tyX3_ok 5 (by decide), ⟨tyX3, tyX3_ok⟩, nmX3, rfl⟩
theorem fi_X6_189 : FI RX6 189 3 5 true (.array .int) := ⟨RX3, TX3, 13, rfl, by decide, kf_X6_189, ku_X3, rfl, tyX3_ok 5 (by decide), ⟨tyX3, tyX3_ok⟩, nmX3, rfl⟩
theorem fi_X3_31 : FI RX3 31 3 6 false .int := ⟨RX3, TX3, 13, rfl, by decide, kf_X3_31, ku_X3, rfl, tyX3_ok 6 (by decide), ⟨tyX3, tyX3_ok⟩, nmX3, rfl⟩
theorem fi_X6_131 : FI RX6 131 3 6 false .int := ⟨RX3, TX3, 13, rfl, by decide, kf_X6_131, ku_X3, rfl, tyX3_ok 6 (by decide), ⟨tyX3, tyX3_ok⟩, nmX3, rfl⟩
theorem fi_X3_34 : FI RX3 34 3 7 true (.array .int) := ⟨RX3, TX3, 13, rfl, by decide, kf_X3_34, ku_X3, rfl, tyX3_ok 7 (by decide), ⟨tyX3, tyX3_ok⟩, nmX3, rfl⟩
theorem fi_X6_201 : FI RX6 201 3 7 true (.array .int) := ⟨RX3, TX3, 13, rfl, by decide, kf_X6_201, ku_X3, rfl, tyX3_ok 7 (by decide), ⟨tyX3, tyX3_ok⟩, nmX3, rfl⟩
theorem fi_X3_37 : FI RX3 37 3 8 true (.array .int) := ⟨RX3, TX3, 13, rfl, by decide, kf_X3_37, ku_X3, rfl, tyX3_ok 8 (by decide), ⟨tyX3, tyX3_ok⟩, nmX3, rfl⟩
theorem fi_X6_204 : FI RX6 204 3 8 true (.array .int) := ⟨RX3, TX3, 13, rfl, by decide, kf_X6_204, ku_X3, rfl, tyX3_ok 8 (by decide), ⟨tyX3, tyX3_ok⟩, nmX3, rfl⟩
theorem fi_X3_40 : FI RX3 40 3 9 true (.array .int) := ⟨RX3, TX3, 13, rfl, by decide, kf_X3_40, ku_X3, rfl, tyX3_ok 9 (by decide), ⟨tyX3, tyX3_ok⟩, nmX3, rfl⟩
theorem fi_X6_140 : FI RX6 140 3 9 true (.array .int) := ⟨RX3, TX3, 13, rfl, by decide, kf_X6_140, ku_X3, rfl, tyX3_ok 9 (by decide), ⟨tyX3, tyX3_ok⟩, nmX3, rfl⟩
theorem fi_X3_43 : FI RX3 43 3 10 false .int := ⟨RX3, TX3, 13, rfl, by decide, kf_X3_43, ku_X3, rfl, tyX3_ok 10 (by decide), ⟨tyX3, tyX3_ok⟩, nmX3, rfl⟩
theorem fi_X6_146 : FI RX6 146 3 10 false .int := ⟨RX3, TX3, 13, rfl, by decide, kf_X6_146, ku_X3, rfl, tyX3_ok 10 (by decide), ⟨tyX3, tyX3_ok⟩, nmX3, rfl⟩
theorem fi_X3_46 : FI RX3 46 3 11 false .int := ⟨RX3, TX3, 13, rfl, by decide, kf_X3_46, ku_X3, rfl, tyX3_ok 11 (by decide), ⟨tyX3, tyX3_ok⟩, nmX3, rfl⟩
theorem fi_X6_168 : FI RX6 168 3 11 false .int := ⟨RX3, TX3, 13, rfl, by decide, kf_X6_168, ku_X3, rfl, tyX3_ok 11 (by decide), ⟨tyX3, tyX3_ok⟩, nmX3, rfl⟩
theorem fi_X3_52 : FI RX3 52 3 12 true (.array (.object "FogMap$Memory")) := ⟨RX3, TX3, 13, rfl, by decide, kf_X3_52, ku_X3, rfl, tyX3_ok 12 (by decide), ⟨tyX3, tyX3_ok⟩, nmX3, rfl⟩
theorem fi_X6_177 : FI RX6 177 3 12 true (.array (.object "FogMap$Memory")) := ⟨RX3, TX3, 13, rfl, by decide, kf_X6_177, ku_X3, rfl, tyX3_ok 12 (by decide), ⟨tyX3, tyX3_ok⟩, nmX3, rfl⟩
theorem fi_X2_9 : FI RX2 9 2 0 true (.array .int) := ⟨RX2, TX2, 2, rfl, by decide, kf_X2_9, ku_X2, rfl, tyX2_ok 0 (by decide), ⟨tyX2, tyX2_ok⟩, nmX2, rfl⟩
theorem fi_X6_186 : FI RX6 186 2 0 true (.array .int) := ⟨RX2, TX2, 2, rfl, by decide, kf_X6_186, ku_X2, rfl, tyX2_ok 0 (by decide), ⟨tyX2, tyX2_ok⟩, nmX2, rfl⟩
theorem fi_X2_15 : FI RX2 15 2 1 true (.array .int) := ⟨RX2, TX2, 2, rfl, by decide, kf_X2_15, ku_X2, rfl, tyX2_ok 1 (by decide), ⟨tyX2, tyX2_ok⟩, nmX2, rfl⟩
theorem fi_X6_230 : FI RX6 230 2 1 true (.array .int) := ⟨RX2, TX2, 2, rfl, by decide, kf_X6_230, ku_X2, rfl, tyX2_ok 1 (by decide), ⟨tyX2, tyX2_ok⟩, nmX2, rfl⟩
theorem fi_X0_11 : FI RX0 11 0 0 true (.array (.object "FogMap$State")) := ⟨RX0, TX0, 3, rfl, by decide, kf_X0_11, ku_X0, rfl, tyX0_ok 0 (by decide), ⟨tyX0, tyX0_ok⟩, nmX0, rfl⟩
theorem fi_X0_17 : FI RX0 17 0 1 false .int := ⟨RX0, TX0, 3, rfl, by decide, kf_X0_17, ku_X0, rfl, tyX0_ok 1 (by decide), ⟨tyX0, tyX0_ok⟩, nmX0, rfl⟩
theorem fi_X6_156 : FI RX6 156 0 1 false .int := ⟨RX0, TX0, 3, rfl, by decide, kf_X6_156, ku_X0, rfl, tyX0_ok 1 (by decide), ⟨tyX0, tyX0_ok⟩, nmX0, rfl⟩
theorem fi_X0_21 : FI RX0 21 0 2 false .int := ⟨RX0, TX0, 3, rfl, by decide, kf_X0_21, ku_X0, rfl, tyX0_ok 2 (by decide), ⟨tyX0, tyX0_ok⟩, nmX0, rfl⟩
theorem fi_X4_9 : FI RX4 9 4 0 true (.array .int) := ⟨RX4, TX4, 3, rfl, by decide, kf_X4_9, ku_X4, rfl, tyX4_ok 0 (by decide), ⟨tyX4, tyX4_ok⟩, nmX4, rfl⟩
theorem fi_X4_15 : FI RX4 15 4 1 false .int := ⟨RX4, TX4, 3, rfl, by decide, kf_X4_15, ku_X4, rfl, tyX4_ok 1 (by decide), ⟨tyX4, tyX4_ok⟩, nmX4, rfl⟩
theorem fi_X6_74 : FI RX6 74 4 1 false .int := ⟨RX4, TX4, 3, rfl, by decide, kf_X6_74, ku_X4, rfl, tyX4_ok 1 (by decide), ⟨tyX4, tyX4_ok⟩, nmX4, rfl⟩
theorem fi_X4_19 : FI RX4 19 4 2 true (.array .int) := ⟨RX4, TX4, 3, rfl, by decide, kf_X4_19, ku_X4, rfl, tyX4_ok 2 (by decide), ⟨tyX4, tyX4_ok⟩, nmX4, rfl⟩
theorem fi_X5_9 : FI RX5 9 5 0 true (.array .int) := ⟨RX5, TX5, 3, rfl, by decide, kf_X5_9, ku_X5, rfl, tyX5_ok 0 (by decide), ⟨tyX5, tyX5_ok⟩, nmX5, rfl⟩
theorem fi_X5_15 : FI RX5 15 5 1 true (.array .int) := ⟨RX5, TX5, 3, rfl, by decide, kf_X5_15, ku_X5, rfl, tyX5_ok 1 (by decide), ⟨tyX5, tyX5_ok⟩, nmX5, rfl⟩
theorem fi_X5_18 : FI RX5 18 5 2 false .int := ⟨RX5, TX5, 3, rfl, by decide, kf_X5_18, ku_X5, rfl, tyX5_ok 2 (by decide), ⟨tyX5, tyX5_ok⟩, nmX5, rfl⟩
theorem fi_X6_12 : FI RX6 12 6 0 true (.object "FogMap$State") := ⟨RX6, TX6, 5, rfl, by decide, kf_X6_12, ku_X6, rfl, tyX6_ok 0 (by decide), ⟨tyX6, tyX6_ok⟩, nmX6, rfl⟩
theorem fi_X6_19 : FI RX6 19 6 1 true (.object "FogMap$Sight") := ⟨RX6, TX6, 5, rfl, by decide, kf_X6_19, ku_X6, rfl, tyX6_ok 1 (by decide), ⟨tyX6, tyX6_ok⟩, nmX6, rfl⟩
theorem fi_X6_26 : FI RX6 26 6 2 true (.object "FogMap$History") := ⟨RX6, TX6, 5, rfl, by decide, kf_X6_26, ku_X6, rfl, tyX6_ok 2 (by decide), ⟨tyX6, tyX6_ok⟩, nmX6, rfl⟩
theorem fi_X6_33 : FI RX6 33 6 3 true (.object "FogMap$Text") := ⟨RX6, TX6, 5, rfl, by decide, kf_X6_33, ku_X6, rfl, tyX6_ok 3 (by decide), ⟨tyX6, tyX6_ok⟩, nmX6, rfl⟩
theorem fi_X6_40 : FI RX6 40 6 4 true (.object "FogMap$Ways") := ⟨RX6, TX6, 5, rfl, by decide, kf_X6_40, ku_X6, rfl, tyX6_ok 4 (by decide), ⟨tyX6, tyX6_ok⟩, nmX6, rfl⟩
theorem mc_X6_init : MC mX6_init 0 := ⟨⟨by decide, by decide, by decide +kernel⟩, by decide, kc_X6_init, ki_X6⟩
theorem mc_X3_init : MC mX3_init 0 := ⟨⟨by decide, by decide, by decide +kernel⟩, by decide, kc_X3_init, ki_X3⟩
theorem mk_X6_11 : KI RX6 11 mX3_init 0 := ⟨⟨"FogMap", by decide +kernel⟩, kv_X3_init, rfl, rfl, mc_X3_init⟩
theorem mc_X1_init : MC mX1_init 0 := ⟨⟨by decide, by decide, by decide +kernel⟩, by decide, kc_X1_init, ki_X1⟩
theorem mk_X3_51 : KI RX3 51 mX1_init 0 := ⟨⟨"FogMap", by decide +kernel⟩, kv_X1_init, rfl, rfl, mc_X1_init⟩
theorem mc_X2_init : MC mX2_init 0 := ⟨⟨by decide, by decide, by decide +kernel⟩, by decide, kc_X2_init, ki_X2⟩
theorem mk_X6_18 : KI RX6 18 mX2_init 0 := ⟨⟨"FogMap", by decide +kernel⟩, kv_X2_init, rfl, rfl, mc_X2_init⟩
theorem mc_X0_init : MC mX0_init 0 := ⟨⟨by decide, by decide, by decide +kernel⟩, by decide, kc_X0_init, ki_X0⟩
theorem mk_X0_24 : KI RX0 24 mX3_init 0 := ⟨⟨"FogMap", by decide +kernel⟩, kv_X3_init, rfl, rfl, mc_X3_init⟩
theorem mc_X4_init : MC mX4_init 0 := ⟨⟨by decide, by decide, by decide +kernel⟩, by decide, kc_X4_init, ki_X4⟩
theorem mk_X6_32 : KI RX6 32 mX4_init 0 := ⟨⟨"FogMap", by decide +kernel⟩, kv_X4_init, rfl, rfl, mc_X4_init⟩
theorem mc_X5_init : MC mX5_init 0 := ⟨⟨by decide, by decide, by decide +kernel⟩, by decide, kc_X5_init, ki_X5⟩
theorem mk_X6_39 : KI RX6 39 mX5_init 0 := ⟨⟨"FogMap", by decide +kernel⟩, kv_X5_init, rfl, rfl, mc_X5_init⟩
theorem mc_X6_setHeight : MC mX6_setHeight 3 := ⟨⟨by decide, by decide, by decide +kernel⟩, by decide, kc_X6_setHeight, ki_X6⟩
theorem mk_L_38 : KV RL 38 mX6_setHeight 3 6 := ⟨kl_L_38, kv_X6_setHeight, kz_X6_setHeight, ⟨_, rfl, rfl⟩, mc_X6_setHeight⟩
theorem mc_X6_isCell : MC mX6_isCell 2 := ⟨⟨by decide, by decide, by decide +kernel⟩, by decide, kc_X6_isCell, ki_X6⟩
theorem mk_X6_44 : KS RX6 44 mX6_isCell 2 := ⟨kl_X6_44, ks_X6_isCell, mc_X6_isCell⟩
theorem mc_X6_isWithin : MC mX6_isWithin 3 := ⟨⟨by decide, by decide, by decide +kernel⟩, by decide, kc_X6_isWithin, ki_X6⟩
theorem mk_X6_48 : KS RX6 48 mX6_isWithin 3 := ⟨kl_X6_48, ks_X6_isWithin, mc_X6_isWithin⟩
theorem mc_X6_cellAt : MC mX6_cellAt 2 := ⟨⟨by decide, by decide, by decide +kernel⟩, by decide, kc_X6_cellAt, ki_X6⟩
theorem mk_X6_52 : KS RX6 52 mX6_cellAt 2 := ⟨kl_X6_52, ks_X6_cellAt, mc_X6_cellAt⟩
theorem mc_X0_keep : MC mX0_keep 1 := ⟨⟨by decide, by decide, by decide +kernel⟩, by decide, kc_X0_keep, ki_X0⟩
theorem mk_X6_60 : KV RX6 60 mX0_keep 1 0 := ⟨kl_X6_60, kv_X0_keep, kz_X0_keep, ⟨_, rfl, rfl⟩, mc_X0_keep⟩
theorem mc_X3_copyFrom : MC mX3_copyFrom 1 := ⟨⟨by decide, by decide, by decide +kernel⟩, by decide, kc_X3_copyFrom, ki_X3⟩
theorem mk_X0_25 : KV RX0 25 mX3_copyFrom 1 3 := ⟨kl_X0_25, kv_X3_copyFrom, kz_X3_copyFrom, ⟨_, rfl, rfl⟩, mc_X3_copyFrom⟩
theorem mc_X6_copy : MC mX6_copy 2 := ⟨⟨by decide, by decide, by decide +kernel⟩, by decide, kc_X6_copy, ki_X6⟩
theorem mk_X3_56 : KN RX3 56 mX6_copy 2 := ⟨⟨"FogMap", by decide +kernel⟩, ks_X6_copy, mc_X6_copy⟩
theorem mc_J9_min_7cf53 : MC mJ9_min_7cf53 2 := ⟨⟨by decide, by decide, by decide +kernel⟩, by decide, kc_J9_min_7cf53, ki_J9⟩
theorem mk_X6_247 : KS RX6 247 mJ9_min_7cf53 2 := ⟨kl_X6_247, ks_J9_min_7cf53, mc_J9_min_7cf53⟩
theorem mc_X1_copyFrom : MC mX1_copyFrom 1 := ⟨⟨by decide, by decide, by decide +kernel⟩, by decide, kc_X1_copyFrom, ki_X1⟩
theorem mk_X3_60 : KV RX3 60 mX1_copyFrom 1 1 := ⟨kl_X3_60, kv_X1_copyFrom, kz_X1_copyFrom, ⟨_, rfl, rfl⟩, mc_X1_copyFrom⟩
theorem mk_X1_24 : KN RX1 24 mX6_copy 2 := ⟨⟨"FogMap", by decide +kernel⟩, ks_X6_copy, mc_X6_copy⟩
theorem mk_X0_29 : KS RX0 29 mJ9_min_7cf53 2 := ⟨kl_X0_29, ks_J9_min_7cf53, mc_J9_min_7cf53⟩
theorem mc_X6_look : MC mX6_look 0 := ⟨⟨by decide, by decide, by decide +kernel⟩, by decide, kc_X6_look, ki_X6⟩
theorem mk_X6_64 : KV RX6 64 mX6_look 0 6 := ⟨kl_X6_64, kv_X6_look, kz_X6_look, ⟨_, rfl, rfl⟩, mc_X6_look⟩
theorem mc_X2_refresh : MC mX2_refresh 1 := ⟨⟨by decide, by decide, by decide +kernel⟩, by decide, kc_X2_refresh, ki_X2⟩
theorem mk_X6_115 : KV RX6 115 mX2_refresh 1 2 := ⟨kl_X6_115, kv_X2_refresh, kz_X2_refresh, ⟨_, rfl, rfl⟩, mc_X2_refresh⟩
theorem mc_X3_isLit : MC mX3_isLit 1 := ⟨⟨by decide, by decide, by decide +kernel⟩, by decide, kc_X3_isLit, ki_X3⟩
theorem mk_X2_18 : KV RX2 18 mX3_isLit 1 3 := ⟨kl_X2_18, kv_X3_isLit, kz_X3_isLit, ⟨_, rfl, rfl⟩, mc_X3_isLit⟩
theorem mc_X6_distanceOf : MC mX6_distanceOf 2 := ⟨⟨by decide, by decide, by decide +kernel⟩, by decide, kc_X6_distanceOf, ki_X6⟩
theorem mk_X3_79 : KN RX3 79 mX6_distanceOf 2 := ⟨⟨"FogMap", by decide +kernel⟩, ks_X6_distanceOf, mc_X6_distanceOf⟩
theorem mc_X6_columnOf : MC mX6_columnOf 1 := ⟨⟨by decide, by decide, by decide +kernel⟩, by decide, kc_X6_columnOf, ki_X6⟩
theorem mk_X6_106 : KS RX6 106 mX6_columnOf 1 := ⟨kl_X6_106, ks_X6_columnOf, mc_X6_columnOf⟩
theorem mc_J9_abs_0f7a4 : MC mJ9_abs_0f7a4 1 := ⟨⟨by decide, by decide, by decide +kernel⟩, by decide, kc_J9_abs_0f7a4, ki_J9⟩
theorem mk_X6_239 : KS RX6 239 mJ9_abs_0f7a4 1 := ⟨kl_X6_239, ks_J9_abs_0f7a4, mc_J9_abs_0f7a4⟩
theorem mc_X6_rowOf : MC mX6_rowOf 1 := ⟨⟨by decide, by decide, by decide +kernel⟩, by decide, kc_X6_rowOf, ki_X6⟩
theorem mk_X6_109 : KS RX6 109 mX6_rowOf 1 := ⟨kl_X6_109, ks_X6_rowOf, mc_X6_rowOf⟩
theorem mc_J9_max_7cf53 : MC mJ9_max_7cf53 2 := ⟨⟨by decide, by decide, by decide +kernel⟩, by decide, kc_J9_max_7cf53, ki_J9⟩
theorem mk_X6_244 : KS RX6 244 mJ9_max_7cf53 2 := ⟨kl_X6_244, ks_J9_max_7cf53, mc_J9_max_7cf53⟩
theorem mc_X2_canSee : MC mX2_canSee 4 := ⟨⟨by decide, by decide, by decide +kernel⟩, by decide, kc_X2_canSee, ki_X2⟩
theorem mk_X2_34 : KV RX2 34 mX2_canSee 4 2 := ⟨kl_X2_34, kv_X2_canSee, kz_X2_canSee, ⟨_, rfl, rfl⟩, mc_X2_canSee⟩
theorem mk_X2_42 : KN RX2 42 mX6_distanceOf 2 := ⟨⟨"FogMap", by decide +kernel⟩, ks_X6_distanceOf, mc_X6_distanceOf⟩
theorem mc_X2_isViewFree : MC mX2_isViewFree 3 := ⟨⟨by decide, by decide, by decide +kernel⟩, by decide, kc_X2_isViewFree, ki_X2⟩
theorem mk_X2_46 : KS RX2 46 mX2_isViewFree 3 := ⟨kl_X2_46, ks_X2_isViewFree, mc_X2_isViewFree⟩
theorem mc_X2_innerCell : MC mX2_innerCell 4 := ⟨⟨by decide, by decide, by decide +kernel⟩, by decide, kc_X2_innerCell, ki_X2⟩
theorem mk_X2_57 : KS RX2 57 mX2_innerCell 4 := ⟨kl_X2_57, ks_X2_innerCell, mc_X2_innerCell⟩
theorem mk_X2_64 : KN RX2 64 mX6_columnOf 1 := ⟨⟨"FogMap", by decide +kernel⟩, ks_X6_columnOf, mc_X6_columnOf⟩
theorem mc_X2_part : MC mX2_part 2 := ⟨⟨by decide, by decide, by decide +kernel⟩, by decide, kc_X2_part, ki_X2⟩
theorem mk_X2_67 : KS RX2 67 mX2_part 2 := ⟨kl_X2_67, ks_X2_part, mc_X2_part⟩
theorem mc_J9_floorDiv_7cf53 : MC mJ9_floorDiv_7cf53 2 := ⟨⟨by decide, by decide, by decide +kernel⟩, by decide, kc_J9_floorDiv_7cf53, ki_J9⟩
theorem mk_X2_76 : KS RX2 76 mJ9_floorDiv_7cf53 2 := ⟨kl_X2_76, ks_J9_floorDiv_7cf53, mc_J9_floorDiv_7cf53⟩
theorem mk_X2_70 : KN RX2 70 mX6_rowOf 1 := ⟨⟨"FogMap", by decide +kernel⟩, ks_X6_rowOf, mc_X6_rowOf⟩
theorem mk_X2_73 : KN RX2 73 mX6_cellAt 2 := ⟨⟨"FogMap", by decide +kernel⟩, ks_X6_cellAt, mc_X6_cellAt⟩
theorem mc_X6_bitOf : MC mX6_bitOf 1 := ⟨⟨by decide, by decide, by decide +kernel⟩, by decide, kc_X6_bitOf, ki_X6⟩
theorem mk_X2_38 : KN RX2 38 mX6_bitOf 1 := ⟨⟨"FogMap", by decide +kernel⟩, ks_X6_bitOf, mc_X6_bitOf⟩
theorem mc_X3_remember : MC mX3_remember 1 := ⟨⟨by decide, by decide, by decide +kernel⟩, by decide, kc_X3_remember, ki_X3⟩
theorem mk_X6_124 : KV RX6 124 mX3_remember 1 3 := ⟨kl_X6_124, kv_X3_remember, kz_X3_remember, ⟨_, rfl, rfl⟩, mc_X3_remember⟩
theorem mc_X3_scoutsOf : MC mX3_scoutsOf 1 := ⟨⟨by decide, by decide, by decide +kernel⟩, by decide, kc_X3_scoutsOf, ki_X3⟩
theorem mk_X3_90 : KV RX3 90 mX3_scoutsOf 1 3 := ⟨kl_X3_90, kv_X3_scoutsOf, kz_X3_scoutsOf, ⟨_, rfl, rfl⟩, mc_X3_scoutsOf⟩
theorem mk_X3_68 : KN RX3 68 mX6_bitOf 1 := ⟨⟨"FogMap", by decide +kernel⟩, ks_X6_bitOf, mc_X6_bitOf⟩
theorem mc_X2_isSeen : MC mX2_isSeen 2 := ⟨⟨by decide, by decide, by decide +kernel⟩, by decide, kc_X2_isSeen, ki_X2⟩
theorem mk_X3_93 : KV RX3 93 mX2_isSeen 2 2 := ⟨kl_X3_93, kv_X2_isSeen, kz_X2_isSeen, ⟨_, rfl, rfl⟩, mc_X2_isSeen⟩
theorem mc_X3_rememberCell : MC mX3_rememberCell 2 := ⟨⟨by decide, by decide, by decide +kernel⟩, by decide, kc_X3_rememberCell, ki_X3⟩
theorem mk_X3_99 : KV RX3 99 mX3_rememberCell 2 3 := ⟨kl_X3_99, kv_X3_rememberCell, kz_X3_rememberCell, ⟨_, rfl, rfl⟩, mc_X3_rememberCell⟩
theorem mc_X3_scoutIn : MC mX3_scoutIn 1 := ⟨⟨by decide, by decide, by decide +kernel⟩, by decide, kc_X3_scoutIn, ki_X3⟩
theorem mk_X3_64 : KV RX3 64 mX3_scoutIn 1 3 := ⟨kl_X3_64, kv_X3_scoutIn, kz_X3_scoutIn, ⟨_, rfl, rfl⟩, mc_X3_scoutIn⟩
theorem mc_X6_append : MC mX6_append 1 := ⟨⟨by decide, by decide, by decide +kernel⟩, by decide, kc_X6_append, ki_X6⟩
theorem mk_L_103 : KV RL 103 mX6_append 1 6 := ⟨kl_L_103, kv_X6_append, kz_X6_append, ⟨_, rfl, rfl⟩, mc_X6_append⟩
theorem mc_X4_put : MC mX4_put 1 := ⟨⟨by decide, by decide, by decide +kernel⟩, by decide, kc_X4_put, ki_X4⟩
theorem mk_X6_78 : KV RX6 78 mX4_put 1 4 := ⟨kl_X6_78, kv_X4_put, kz_X4_put, ⟨_, rfl, rfl⟩, mc_X4_put⟩
theorem mc_X6_load : MC mX6_load 0 := ⟨⟨by decide, by decide, by decide +kernel⟩, by decide, kc_X6_load, ki_X6⟩
theorem mk_L_100 : KV RL 100 mX6_load 0 6 := ⟨kl_L_100, kv_X6_load, kz_X6_load, ⟨_, rfl, rfl⟩, mc_X6_load⟩
theorem mc_X4_read : MC mX4_read 1 := ⟨⟨by decide, by decide, by decide +kernel⟩, by decide, kc_X4_read, ki_X4⟩
theorem mk_X6_82 : KV RX6 82 mX4_read 1 4 := ⟨kl_X6_82, kv_X4_read, kz_X4_read, ⟨_, rfl, rfl⟩, mc_X4_read⟩
theorem mc_J7_fill_53178 : MC mJ7_fill_53178 2 := ⟨⟨by decide, by decide, by decide +kernel⟩, by decide, kc_J7_fill_53178, ki_J7⟩
theorem mk_X4_22 : KS RX4 22 mJ7_fill_53178 2 := ⟨kl_X4_22, ks_J7_fill_53178, mc_J7_fill_53178⟩
theorem mc_X4_isAllowed : MC mX4_isAllowed 4 := ⟨⟨by decide, by decide, by decide +kernel⟩, by decide, kc_X4_isAllowed, ki_X4⟩
theorem mk_X4_28 : KS RX4 28 mX4_isAllowed 4 := ⟨kl_X4_28, ks_X4_isAllowed, mc_X4_isAllowed⟩
theorem mk_X4_32 : KN RX4 32 mX6_cellAt 2 := ⟨⟨"FogMap", by decide +kernel⟩, ks_X6_cellAt, mc_X6_cellAt⟩
theorem mk_X4_36 : KV RX4 36 mX3_scoutIn 1 3 := ⟨kl_X4_36, kv_X3_scoutIn, kz_X3_scoutIn, ⟨_, rfl, rfl⟩, mc_X3_scoutIn⟩
theorem mk_X4_42 : KN RX4 42 mX6_isWithin 3 := ⟨⟨"FogMap", by decide +kernel⟩, ks_X6_isWithin, mc_X6_isWithin⟩
theorem mc_X4_tellTo : MC mX4_tellTo 1 := ⟨⟨by decide, by decide, by decide +kernel⟩, by decide, kc_X4_tellTo, ki_X4⟩
theorem mk_X6_86 : KV RX6 86 mX4_tellTo 1 4 := ⟨kl_X6_86, kv_X4_tellTo, kz_X4_tellTo, ⟨_, rfl, rfl⟩, mc_X4_tellTo⟩
theorem mc_X6_addScout : MC mX6_addScout 4 := ⟨⟨by decide, by decide, by decide +kernel⟩, by decide, kc_X6_addScout, ki_X6⟩
theorem mk_L_44 : KV RL 44 mX6_addScout 4 6 := ⟨kl_L_44, kv_X6_addScout, kz_X6_addScout, ⟨_, rfl, rfl⟩, mc_X6_addScout⟩
theorem mc_X3_isFree : MC mX3_isFree 1 := ⟨⟨by decide, by decide, by decide +kernel⟩, by decide, kc_X3_isFree, ki_X3⟩
theorem mk_X6_89 : KV RX6 89 mX3_isFree 1 3 := ⟨kl_X6_89, kv_X3_isFree, kz_X3_isFree, ⟨_, rfl, rfl⟩, mc_X3_isFree⟩
theorem mc_X3_putScout : MC mX3_putScout 3 := ⟨⟨by decide, by decide, by decide +kernel⟩, by decide, kc_X3_putScout, ki_X3⟩
theorem mk_X6_96 : KV RX6 96 mX3_putScout 3 3 := ⟨kl_X6_96, kv_X3_putScout, kz_X3_putScout, ⟨_, rfl, rfl⟩, mc_X3_putScout⟩
theorem mc_X6_addLight : MC mX6_addLight 4 := ⟨⟨by decide, by decide, by decide +kernel⟩, by decide, kc_X6_addLight, ki_X6⟩
theorem mk_L_50 : KV RL 50 mX6_addLight 4 6 := ⟨kl_L_50, kv_X6_addLight, kz_X6_addLight, ⟨_, rfl, rfl⟩, mc_X6_addLight⟩
theorem mc_X3_putLight : MC mX3_putLight 3 := ⟨⟨by decide, by decide, by decide +kernel⟩, by decide, kc_X3_putLight, ki_X3⟩
theorem mk_X6_134 : KV RX6 134 mX3_putLight 3 3 := ⟨kl_X6_134, kv_X3_putLight, kz_X3_putLight, ⟨_, rfl, rfl⟩, mc_X3_putLight⟩
theorem mc_X6_setFogTime : MC mX6_setFogTime 1 := ⟨⟨by decide, by decide, by decide +kernel⟩, by decide, kc_X6_setFogTime, ki_X6⟩
theorem mk_L_59 : KV RL 59 mX6_setFogTime 1 6 := ⟨kl_L_59, kv_X6_setFogTime, kz_X6_setFogTime, ⟨_, rfl, rfl⟩, mc_X6_setFogTime⟩
theorem mc_X3_changeFogTime : MC mX3_changeFogTime 1 := ⟨⟨by decide, by decide, by decide +kernel⟩, by decide, kc_X3_changeFogTime, ki_X3⟩
theorem mk_X6_149 : KV RX6 149 mX3_changeFogTime 1 3 := ⟨kl_X6_149, kv_X3_changeFogTime, kz_X3_changeFogTime, ⟨_, rfl, rfl⟩, mc_X3_changeFogTime⟩
theorem mc_X1_limit : MC mX1_limit 1 := ⟨⟨by decide, by decide, by decide +kernel⟩, by decide, kc_X1_limit, ki_X1⟩
theorem mk_X3_86 : KV RX3 86 mX1_limit 1 1 := ⟨kl_X3_86, kv_X1_limit, kz_X1_limit, ⟨_, rfl, rfl⟩, mc_X1_limit⟩
theorem mk_X1_34 : KS RX1 34 mJ9_min_7cf53 2 := ⟨kl_X1_34, ks_J9_min_7cf53, mc_J9_min_7cf53⟩
theorem mc_X6_pass : MC mX6_pass 1 := ⟨⟨by decide, by decide, by decide +kernel⟩, by decide, kc_X6_pass, ki_X6⟩
theorem mk_L_62 : KV RL 62 mX6_pass 1 6 := ⟨kl_L_62, kv_X6_pass, kz_X6_pass, ⟨_, rfl, rfl⟩, mc_X6_pass⟩
theorem mc_X6_passTurn : MC mX6_passTurn 0 := ⟨⟨by decide, by decide, by decide +kernel⟩, by decide, kc_X6_passTurn, ki_X6⟩
theorem mk_X6_152 : KV RX6 152 mX6_passTurn 0 6 := ⟨kl_X6_152, kv_X6_passTurn, kz_X6_passTurn, ⟨_, rfl, rfl⟩, mc_X6_passTurn⟩
theorem mc_X3_burn : MC mX3_burn 0 := ⟨⟨by decide, by decide, by decide +kernel⟩, by decide, kc_X3_burn, ki_X3⟩
theorem mk_X6_233 : KV RX6 233 mX3_burn 0 3 := ⟨kl_X6_233, kv_X3_burn, kz_X3_burn, ⟨_, rfl, rfl⟩, mc_X3_burn⟩
theorem mc_X3_countBurning : MC mX3_countBurning 0 := ⟨⟨by decide, by decide, by decide +kernel⟩, by decide, kc_X3_countBurning, ki_X3⟩
theorem mk_X3_75 : KV RX3 75 mX3_countBurning 0 3 := ⟨kl_X3_75, kv_X3_countBurning, kz_X3_countBurning, ⟨_, rfl, rfl⟩, mc_X3_countBurning⟩
theorem mc_X3_fade : MC mX3_fade 0 := ⟨⟨by decide, by decide, by decide +kernel⟩, by decide, kc_X3_fade, ki_X3⟩
theorem mk_X6_236 : KV RX6 236 mX3_fade 0 3 := ⟨kl_X6_236, kv_X3_fade, kz_X3_fade, ⟨_, rfl, rfl⟩, mc_X3_fade⟩
theorem mc_X1_fade : MC mX1_fade 0 := ⟨⟨by decide, by decide, by decide +kernel⟩, by decide, kc_X1_fade, ki_X1⟩
theorem mk_X3_83 : KV RX3 83 mX1_fade 0 1 := ⟨kl_X3_83, kv_X1_fade, kz_X1_fade, ⟨_, rfl, rfl⟩, mc_X1_fade⟩
theorem mk_X1_28 : KS RX1 28 mJ9_max_7cf53 2 := ⟨kl_X1_28, ks_J9_max_7cf53, mc_J9_max_7cf53⟩
theorem mc_X6_undo : MC mX6_undo 0 := ⟨⟨by decide, by decide, by decide +kernel⟩, by decide, kc_X6_undo, ki_X6⟩
theorem mk_L_96 : KV RL 96 mX6_undo 0 6 := ⟨kl_L_96, kv_X6_undo, kz_X6_undo, ⟨_, rfl, rfl⟩, mc_X6_undo⟩
theorem mc_X0_restore : MC mX0_restore 1 := ⟨⟨by decide, by decide, by decide +kernel⟩, by decide, kc_X0_restore, ki_X0⟩
theorem mk_X6_159 : KV RX6 159 mX0_restore 1 0 := ⟨kl_X6_159, kv_X0_restore, kz_X0_restore, ⟨_, rfl, rfl⟩, mc_X0_restore⟩
theorem mc_X6_count : MC mX6_count 1 := ⟨⟨by decide, by decide, by decide +kernel⟩, by decide, kc_X6_count, ki_X6⟩
theorem mk_L_12 : KV RL 12 mX6_count 1 6 := ⟨kl_L_12, kv_X6_count, kz_X6_count, ⟨_, rfl, rfl⟩, mc_X6_count⟩
theorem mk_X6_162 : KV RX6 162 mX3_countBurning 0 3 := ⟨kl_X6_162, kv_X3_countBurning, kz_X3_countBurning, ⟨_, rfl, rfl⟩, mc_X3_countBurning⟩
theorem mc_X2_countLit : MC mX2_countLit 0 := ⟨⟨by decide, by decide, by decide +kernel⟩, by decide, kc_X2_countLit, ki_X2⟩
theorem mk_X6_165 : KV RX6 165 mX2_countLit 0 2 := ⟨kl_X6_165, kv_X2_countLit, kz_X2_countLit, ⟨_, rfl, rfl⟩, mc_X2_countLit⟩
theorem mk_X6_171 : KV RX6 171 mX3_scoutsOf 1 3 := ⟨kl_X6_171, kv_X3_scoutsOf, kz_X3_scoutsOf, ⟨_, rfl, rfl⟩, mc_X3_scoutsOf⟩
theorem mc_X2_countSeen : MC mX2_countSeen 1 := ⟨⟨by decide, by decide, by decide +kernel⟩, by decide, kc_X2_countSeen, ki_X2⟩
theorem mk_X6_174 : KV RX6 174 mX2_countSeen 1 2 := ⟨kl_X6_174, kv_X2_countSeen, kz_X2_countSeen, ⟨_, rfl, rfl⟩, mc_X2_countSeen⟩
theorem mk_X2_50 : KV RX2 50 mX2_isSeen 2 2 := ⟨kl_X2_50, kv_X2_isSeen, kz_X2_isSeen, ⟨_, rfl, rfl⟩, mc_X2_isSeen⟩
theorem mc_X1_countNotFogged : MC mX1_countNotFogged 0 := ⟨⟨by decide, by decide, by decide +kernel⟩, by decide, kc_X1_countNotFogged, ki_X1⟩
theorem mk_X6_181 : KV RX6 181 mX1_countNotFogged 0 1 := ⟨kl_X6_181, kv_X1_countNotFogged, kz_X1_countNotFogged, ⟨_, rfl, rfl⟩, mc_X1_countNotFogged⟩
theorem mc_X6_known : MC mX6_known 4 := ⟨⟨by decide, by decide, by decide +kernel⟩, by decide, kc_X6_known, ki_X6⟩
theorem mk_L_22 : KV RL 22 mX6_known 4 6 := ⟨kl_L_22, kv_X6_known, kz_X6_known, ⟨_, rfl, rfl⟩, mc_X6_known⟩
theorem mk_X6_198 : KV RX6 198 mX2_isSeen 2 2 := ⟨kl_X6_198, kv_X2_isSeen, kz_X2_isSeen, ⟨_, rfl, rfl⟩, mc_X2_isSeen⟩
theorem mc_L_cell : MC mL_cell 2 := ⟨⟨by decide, by decide, by decide +kernel⟩, by decide, kc_L_cell, ki_L⟩
theorem mk_L_81 : KS RL 81 mL_cell 2 := ⟨kl_L_81, ks_L_cell, mc_L_cell⟩
theorem mc_L_low : MC mL_low 2 := ⟨⟨by decide, by decide, by decide +kernel⟩, by decide, kc_L_low, ki_L⟩
theorem mk_L_33 : KS RL 33 mL_low 2 := ⟨kl_L_33, ks_L_low, mc_L_low⟩
theorem mc_L_digest : MC mL_digest 1 := ⟨⟨by decide, by decide, by decide +kernel⟩, by decide, kc_L_digest, ki_L⟩
theorem mk_L_84 : KS RL 84 mL_digest 1 := ⟨kl_L_84, ks_L_digest, mc_L_digest⟩
theorem mc_X6_cell : MC mX6_cell 3 := ⟨⟨by decide, by decide, by decide +kernel⟩, by decide, kc_X6_cell, ki_X6⟩
theorem mk_L_18 : KV RL 18 mX6_cell 3 6 := ⟨kl_L_18, kv_X6_cell, kz_X6_cell, ⟨_, rfl, rfl⟩, mc_X6_cell⟩
theorem mk_X6_67 : KV RX6 67 mX3_scoutIn 1 3 := ⟨kl_X6_67, kv_X3_scoutIn, kz_X3_scoutIn, ⟨_, rfl, rfl⟩, mc_X3_scoutIn⟩
theorem mc_X6_scout : MC mX6_scout 2 := ⟨⟨by decide, by decide, by decide +kernel⟩, by decide, kc_X6_scout, ki_X6⟩
theorem mk_L_26 : KV RL 26 mX6_scout 2 6 := ⟨kl_L_26, kv_X6_scout, kz_X6_scout, ⟨_, rfl, rfl⟩, mc_X6_scout⟩
theorem mc_X6_isScout : MC mX6_isScout 1 := ⟨⟨by decide, by decide, by decide +kernel⟩, by decide, kc_X6_isScout, ki_X6⟩
theorem mk_X6_100 : KV RX6 100 mX6_isScout 1 6 := ⟨kl_X6_100, kv_X6_isScout, kz_X6_isScout, ⟨_, rfl, rfl⟩, mc_X6_isScout⟩
theorem mk_X6_192 : KS RX6 192 mX6_bitOf 1 := ⟨kl_X6_192, ks_X6_bitOf, mc_X6_bitOf⟩
theorem mc_X6_otherSide : MC mX6_otherSide 1 := ⟨⟨by decide, by decide, by decide +kernel⟩, by decide, kc_X6_otherSide, ki_X6⟩
theorem mk_X6_195 : KS RX6 195 mX6_otherSide 1 := ⟨kl_X6_195, ks_X6_otherSide, mc_X6_otherSide⟩
theorem mc_X6_light : MC mX6_light 2 := ⟨⟨by decide, by decide, by decide +kernel⟩, by decide, kc_X6_light, ki_X6⟩
theorem mk_L_30 : KV RL 30 mX6_light 2 6 := ⟨kl_L_30, kv_X6_light, kz_X6_light, ⟨_, rfl, rfl⟩, mc_X6_light⟩
theorem mc_X6_isLight : MC mX6_isLight 1 := ⟨⟨by decide, by decide, by decide +kernel⟩, by decide, kc_X6_isLight, ki_X6⟩
theorem mk_X6_137 : KV RX6 137 mX6_isLight 1 6 := ⟨kl_X6_137, kv_X6_isLight, kz_X6_isLight, ⟨_, rfl, rfl⟩, mc_X6_isLight⟩
theorem mc_L_act : MC mL_act 2 := ⟨⟨by decide, by decide, by decide +kernel⟩, by decide, kc_L_act, ki_L⟩
theorem mk_L_88 : KS RL 88 mL_act 2 := ⟨kl_L_88, ks_L_act, mc_L_act⟩
theorem mc_X6_setWall : MC mX6_setWall 3 := ⟨⟨by decide, by decide, by decide +kernel⟩, by decide, kc_X6_setWall, ki_X6⟩
theorem mk_L_41 : KV RL 41 mX6_setWall 3 6 := ⟨kl_L_41, kv_X6_setWall, kz_X6_setWall, ⟨_, rfl, rfl⟩, mc_X6_setWall⟩
theorem mc_X6_removeScout : MC mX6_removeScout 1 := ⟨⟨by decide, by decide, by decide +kernel⟩, by decide, kc_X6_removeScout, ki_X6⟩
theorem mk_L_47 : KV RL 47 mX6_removeScout 1 6 := ⟨kl_L_47, kv_X6_removeScout, kz_X6_removeScout, ⟨_, rfl, rfl⟩, mc_X6_removeScout⟩
theorem mc_X3_dropScout : MC mX3_dropScout 1 := ⟨⟨by decide, by decide, by decide +kernel⟩, by decide, kc_X3_dropScout, ki_X3⟩
theorem mk_X6_128 : KV RX6 128 mX3_dropScout 1 3 := ⟨kl_X6_128, kv_X3_dropScout, kz_X3_dropScout, ⟨_, rfl, rfl⟩, mc_X3_dropScout⟩
theorem mc_X6_closeGap : MC mX6_closeGap 3 := ⟨⟨by decide, by decide, by decide +kernel⟩, by decide, kc_X6_closeGap, ki_X6⟩
theorem mk_X3_71 : KN RX3 71 mX6_closeGap 3 := ⟨⟨"FogMap", by decide +kernel⟩, ks_X6_closeGap, mc_X6_closeGap⟩
theorem mc_X6_setOil : MC mX6_setOil 2 := ⟨⟨by decide, by decide, by decide +kernel⟩, by decide, kc_X6_setOil, ki_X6⟩
theorem mk_L_53 : KV RL 53 mX6_setOil 2 6 := ⟨kl_L_53, kv_X6_setOil, kz_X6_setOil, ⟨_, rfl, rfl⟩, mc_X6_setOil⟩
theorem mc_X6_removeLight : MC mX6_removeLight 1 := ⟨⟨by decide, by decide, by decide +kernel⟩, by decide, kc_X6_removeLight, ki_X6⟩
theorem mk_L_56 : KV RL 56 mX6_removeLight 1 6 := ⟨kl_L_56, kv_X6_removeLight, kz_X6_removeLight, ⟨_, rfl, rfl⟩, mc_X6_removeLight⟩
theorem mc_X3_dropLight : MC mX3_dropLight 1 := ⟨⟨by decide, by decide, by decide +kernel⟩, by decide, kc_X3_dropLight, ki_X3⟩
theorem mk_X6_143 : KV RX6 143 mX3_dropLight 1 3 := ⟨kl_X6_143, kv_X3_dropLight, kz_X3_dropLight, ⟨_, rfl, rfl⟩, mc_X3_dropLight⟩
theorem mc_X6_step : MC mX6_step 3 := ⟨⟨by decide, by decide, by decide +kernel⟩, by decide, kc_X6_step, ki_X6⟩
theorem mk_L_65 : KV RL 65 mX6_step 3 6 := ⟨kl_L_65, kv_X6_step, kz_X6_step, ⟨_, rfl, rfl⟩, mc_X6_step⟩
theorem mc_X6_canStep : MC mX6_canStep 2 := ⟨⟨by decide, by decide, by decide +kernel⟩, by decide, kc_X6_canStep, ki_X6⟩
theorem mk_X6_112 : KV RX6 112 mX6_canStep 2 6 := ⟨kl_X6_112, kv_X6_canStep, kz_X6_canStep, ⟨_, rfl, rfl⟩, mc_X6_canStep⟩
theorem mc_X6_countUncovered : MC mX6_countUncovered 1 := ⟨⟨by decide, by decide, by decide +kernel⟩, by decide, kc_X6_countUncovered, ki_X6⟩
theorem mk_X6_121 : KV RX6 121 mX6_countUncovered 1 6 := ⟨kl_X6_121, kv_X6_countUncovered, kz_X6_countUncovered, ⟨_, rfl, rfl⟩, mc_X6_countUncovered⟩
theorem mc_L_isRight : MC mL_isRight 1 := ⟨⟨by decide, by decide, by decide +kernel⟩, by decide, kc_L_isRight, ki_L⟩
theorem mk_L_92 : KS RL 92 mL_isRight 1 := ⟨kl_L_92, ks_L_isRight, mc_L_isRight⟩
theorem mc_X6_way : MC mX6_way 3 := ⟨⟨by decide, by decide, by decide +kernel⟩, by decide, kc_X6_way, ki_X6⟩
theorem mk_L_68 : KV RL 68 mX6_way 3 6 := ⟨kl_L_68, kv_X6_way, kz_X6_way, ⟨_, rfl, rfl⟩, mc_X6_way⟩
theorem mc_X5_shortest : MC mX5_shortest 3 := ⟨⟨by decide, by decide, by decide +kernel⟩, by decide, kc_X5_shortest, ki_X5⟩
theorem mk_X6_219 : KV RX6 219 mX5_shortest 3 5 := ⟨kl_X6_219, kv_X5_shortest, kz_X5_shortest, ⟨_, rfl, rfl⟩, mc_X5_shortest⟩
theorem mk_X5_22 : KS RX5 22 mJ7_fill_53178 2 := ⟨kl_X5_22, ks_J7_fill_53178, mc_J7_fill_53178⟩
theorem mc_X5_reach : MC mX5_reach 2 := ⟨⟨by decide, by decide, by decide +kernel⟩, by decide, kc_X5_reach, ki_X5⟩
theorem mk_X5_28 : KV RX5 28 mX5_reach 2 5 := ⟨kl_X5_28, kv_X5_reach, kz_X5_reach, ⟨_, rfl, rfl⟩, mc_X5_reach⟩
theorem mc_X5_reachNeighbors : MC mX5_reachNeighbors 2 := ⟨⟨by decide, by decide, by decide +kernel⟩, by decide, kc_X5_reachNeighbors, ki_X5⟩
theorem mk_X5_32 : KV RX5 32 mX5_reachNeighbors 2 5 := ⟨kl_X5_32, kv_X5_reachNeighbors, kz_X5_reachNeighbors, ⟨_, rfl, rfl⟩, mc_X5_reachNeighbors⟩
theorem mk_X5_36 : KN RX5 36 mX6_columnOf 1 := ⟨⟨"FogMap", by decide +kernel⟩, ks_X6_columnOf, mc_X6_columnOf⟩
theorem mk_X5_40 : KN RX5 40 mX6_rowOf 1 := ⟨⟨"FogMap", by decide +kernel⟩, ks_X6_rowOf, mc_X6_rowOf⟩
theorem mk_X5_43 : KN RX5 43 mX6_isCell 2 := ⟨⟨"FogMap", by decide +kernel⟩, ks_X6_isCell, mc_X6_isCell⟩
theorem mk_X5_47 : KN RX5 47 mX6_cellAt 2 := ⟨⟨"FogMap", by decide +kernel⟩, ks_X6_cellAt, mc_X6_cellAt⟩
theorem mc_X1_canStep : MC mX1_canStep 2 := ⟨⟨by decide, by decide, by decide +kernel⟩, by decide, kc_X1_canStep, ki_X1⟩
theorem mk_X5_51 : KV RX5 51 mX1_canStep 2 1 := ⟨kl_X5_51, kv_X1_canStep, kz_X1_canStep, ⟨_, rfl, rfl⟩, mc_X1_canStep⟩
theorem mk_X1_37 : KS RX1 37 mJ9_abs_0f7a4 1 := ⟨kl_X1_37, ks_J9_abs_0f7a4, mc_J9_abs_0f7a4⟩
theorem mc_X6_alone : MC mX6_alone 1 := ⟨⟨by decide, by decide, by decide +kernel⟩, by decide, kc_X6_alone, ki_X6⟩
theorem mk_L_71 : KV RL 71 mX6_alone 1 6 := ⟨kl_L_71, kv_X6_alone, kz_X6_alone, ⟨_, rfl, rfl⟩, mc_X6_alone⟩
theorem mc_X6_lookout : MC mX6_lookout 2 := ⟨⟨by decide, by decide, by decide +kernel⟩, by decide, kc_X6_lookout, ki_X6⟩
theorem mk_L_74 : KV RL 74 mX6_lookout 2 6 := ⟨kl_L_74, kv_X6_lookout, kz_X6_lookout, ⟨_, rfl, rfl⟩, mc_X6_lookout⟩
theorem mk_X6_223 : KS RX6 223 mX6_distanceOf 2 := ⟨kl_X6_223, ks_X6_distanceOf, mc_X6_distanceOf⟩
theorem mc_X2_countSeenFrom : MC mX2_countSeenFrom 3 := ⟨⟨by decide, by decide, by decide +kernel⟩, by decide, kc_X2_countSeenFrom, ki_X2⟩
theorem mk_X6_226 : KV RX6 226 mX2_countSeenFrom 3 2 := ⟨kl_X6_226, kv_X2_countSeenFrom, kz_X2_countSeenFrom, ⟨_, rfl, rfl⟩, mc_X2_countSeenFrom⟩
theorem mc_L_apart : MC mL_apart 2 := ⟨⟨by decide, by decide, by decide +kernel⟩, by decide, kc_L_apart, ki_L⟩
theorem mk_L_77 : KS RL 77 mL_apart 2 := ⟨kl_L_77, ks_L_apart, mc_L_apart⟩
def SH : Shp := [(9, 5, [some (some 1), some (some 21), some (some 24), some (some 126), some (some 129)]), (6, 13, [some (some 2), some (some 3), none, some (some 4), some (some 5), some (some 6), none, some (some 7), some (some 8), some (some 9), none, none, some (some 10)]), (0, 120, []), (0, 120, []), (0, 10, []), (0, 10, []), (0, 10, []), (0, 6, []), (0, 6, []), (0, 6, []), (1, 2, [some (some 11), some (some 16)]), (4, 4, [some (some 12), some (some 13), some (some 14), some (some 15)]), (0, 120, []), (0, 120, []), (0, 120, []), (0, 120, []), (4, 4, [some (some 17), some (some 18), some (some 19), some (some 20)]), (0, 120, []), (0, 120, []), (0, 120, []), (0, 120, []), (5, 2, [some (some 22), some (some 23)]), (0, 120, []), (0, 120, []), (3, 3, [some (some 25), none, none]), (2, 5, [some (some 26), some (some 46), some (some 66), some (some 86), some (some 106)]), (6, 13, [some (some 27), some (some 28), none, some (some 29), some (some 30), some (some 31), none, some (some 32), some (some 33), some (some 34), none, none, some (some 35)]), (0, 120, []), (0, 120, []), (0, 10, []), (0, 10, []), (0, 10, []), (0, 6, []), (0, 6, []), (0, 6, []), (1, 2, [some (some 36), some (some 41)]), (4, 4, [some (some 37), some (some 38), some (some 39), some (some 40)]), (0, 120, []), (0, 120, []), (0, 120, []), (0, 120, []), (4, 4, [some (some 42), some (some 43), some (some 44), some (some 45)]), (0, 120, []), (0, 120, []), (0, 120, []), (0, 120, []), (6, 13, [some (some 47), some (some 48), none, some (some 49), some (some 50), some (some 51), none, some (some 52), some (some 53), some (some 54), none, none, some (some 55)]), (0, 120, []), (0, 120, []), (0, 10, []), (0, 10, []), (0, 10, []), (0, 6, []), (0, 6, []), (0, 6, []), (1, 2, [some (some 56), some (some 61)]), (4, 4, [some (some 57), some (some 58), some (some 59), some (some 60)]), (0, 120, []), (0, 120, []), (0, 120, []), (0, 120, []), (4, 4, [some (some 62), some (some 63), some (some 64), some (some 65)]), (0, 120, []), (0, 120, []), (0, 120, []), (0, 120, []), (6, 13, [some (some 67), some (some 68), none, some (some 69), some (some 70), some (some 71), none, some (some 72), some (some 73), some (some 74), none, none, some (some 75)]), (0, 120, []), (0, 120, []), (0, 10, []), (0, 10, []), (0, 10, []), (0, 6, []), (0, 6, []), (0, 6, []), (1, 2, [some (some 76), some (some 81)]), (4, 4, [some (some 77), some (some 78), some (some 79), some (some 80)]), (0, 120, []), (0, 120, []), (0, 120, []), (0, 120, []), (4, 4, [some (some 82), some (some 83), some (some 84), some (some 85)]), (0, 120, []), (0, 120, []), (0, 120, []), (0, 120, []), (6, 13, [some (some 87), some (some 88), none, some (some 89), some (some 90), some (some 91), none, some (some 92), some (some 93), some (some 94), none, none, some (some 95)]), (0, 120, []), (0, 120, []), (0, 10, []), (0, 10, []), (0, 10, []), (0, 6, []), (0, 6, []), (0, 6, []), (1, 2, [some (some 96), some (some 101)]), (4, 4, [some (some 97), some (some 98), some (some 99), some (some 100)]), (0, 120, []), (0, 120, []), (0, 120, []), (0, 120, []), (4, 4, [some (some 102), some (some 103), some (some 104), some (some 105)]), (0, 120, []), (0, 120, []), (0, 120, []), (0, 120, []), (6, 13, [some (some 107), some (some 108), none, some (some 109), some (some 110), some (some 111), none, some (some 112), some (some 113), some (some 114), none, none, some (some 115)]), (0, 120, []), (0, 120, []), (0, 10, []), (0, 10, []), (0, 10, []), (0, 6, []), (0, 6, []), (0, 6, []), (1, 2, [some (some 116), some (some 121)]), (4, 4, [some (some 117), some (some 118), some (some 119), some (some 120)]), (0, 120, []), (0, 120, []), (0, 120, []), (0, 120, []), (4, 4, [some (some 122), some (some 123), some (some 124), some (some 125)]), (0, 120, []), (0, 120, []), (0, 120, []), (0, 120, []), (7, 3, [some (some 127), none, some (some 128)]), (0, 120, []), (0, 120, []), (8, 3, [some (some 130), some (some 131), none]), (0, 120, []), (0, 120, [])]
theorem sh_0 : SH[0]? = some (9, 5, [some (some 1), some (some 21), some (some 24), some (some 126), some (some 129)]) := by rfl
theorem sh_1 : SH[1]? = some (6, 13, [some (some 2), some (some 3), none, some (some 4), some (some 5), some (some 6), none, some (some 7), some (some 8), some (some 9), none, none, some (some 10)]) := by rfl
theorem sh_2 : SH[2]? = some (0, 120, []) := by rfl
theorem sh_3 : SH[3]? = some (0, 120, []) := by rfl
theorem sh_4 : SH[4]? = some (0, 10, []) := by rfl
theorem sh_5 : SH[5]? = some (0, 10, []) := by rfl
theorem sh_6 : SH[6]? = some (0, 10, []) := by rfl
theorem sh_7 : SH[7]? = some (0, 6, []) := by rfl
theorem sh_8 : SH[8]? = some (0, 6, []) := by rfl
theorem sh_9 : SH[9]? = some (0, 6, []) := by rfl
theorem sh_10 : SH[10]? = some (1, 2, [some (some 11), some (some 16)]) := by rfl
theorem sh_11 : SH[11]? = some (4, 4, [some (some 12), some (some 13), some (some 14), some (some 15)]) := by rfl
theorem sh_12 : SH[12]? = some (0, 120, []) := by rfl
theorem sh_13 : SH[13]? = some (0, 120, []) := by rfl
theorem sh_14 : SH[14]? = some (0, 120, []) := by rfl
theorem sh_15 : SH[15]? = some (0, 120, []) := by rfl
theorem sh_16 : SH[16]? = some (4, 4, [some (some 17), some (some 18), some (some 19), some (some 20)]) := by rfl
theorem sh_17 : SH[17]? = some (0, 120, []) := by rfl
theorem sh_18 : SH[18]? = some (0, 120, []) := by rfl
theorem sh_19 : SH[19]? = some (0, 120, []) := by rfl
theorem sh_20 : SH[20]? = some (0, 120, []) := by rfl
theorem sh_21 : SH[21]? = some (5, 2, [some (some 22), some (some 23)]) := by rfl
theorem sh_22 : SH[22]? = some (0, 120, []) := by rfl
theorem sh_23 : SH[23]? = some (0, 120, []) := by rfl
theorem sh_24 : SH[24]? = some (3, 3, [some (some 25), none, none]) := by rfl
theorem sh_25 : SH[25]? = some (2, 5, [some (some 26), some (some 46), some (some 66), some (some 86), some (some 106)]) := by rfl
theorem sh_26 : SH[26]? = some (6, 13, [some (some 27), some (some 28), none, some (some 29), some (some 30), some (some 31), none, some (some 32), some (some 33), some (some 34), none, none, some (some 35)]) := by rfl
theorem sh_27 : SH[27]? = some (0, 120, []) := by rfl
theorem sh_28 : SH[28]? = some (0, 120, []) := by rfl
theorem sh_29 : SH[29]? = some (0, 10, []) := by rfl
theorem sh_30 : SH[30]? = some (0, 10, []) := by rfl
theorem sh_31 : SH[31]? = some (0, 10, []) := by rfl
theorem sh_32 : SH[32]? = some (0, 6, []) := by rfl
theorem sh_33 : SH[33]? = some (0, 6, []) := by rfl
theorem sh_34 : SH[34]? = some (0, 6, []) := by rfl
theorem sh_35 : SH[35]? = some (1, 2, [some (some 36), some (some 41)]) := by rfl
theorem sh_36 : SH[36]? = some (4, 4, [some (some 37), some (some 38), some (some 39), some (some 40)]) := by rfl
theorem sh_37 : SH[37]? = some (0, 120, []) := by rfl
theorem sh_38 : SH[38]? = some (0, 120, []) := by rfl
theorem sh_39 : SH[39]? = some (0, 120, []) := by rfl
theorem sh_40 : SH[40]? = some (0, 120, []) := by rfl
theorem sh_41 : SH[41]? = some (4, 4, [some (some 42), some (some 43), some (some 44), some (some 45)]) := by rfl
theorem sh_42 : SH[42]? = some (0, 120, []) := by rfl
theorem sh_43 : SH[43]? = some (0, 120, []) := by rfl
theorem sh_44 : SH[44]? = some (0, 120, []) := by rfl
theorem sh_45 : SH[45]? = some (0, 120, []) := by rfl
theorem sh_46 : SH[46]? = some (6, 13, [some (some 47), some (some 48), none, some (some 49), some (some 50), some (some 51), none, some (some 52), some (some 53), some (some 54), none, none, some (some 55)]) := by rfl
theorem sh_47 : SH[47]? = some (0, 120, []) := by rfl
theorem sh_48 : SH[48]? = some (0, 120, []) := by rfl
theorem sh_49 : SH[49]? = some (0, 10, []) := by rfl
theorem sh_50 : SH[50]? = some (0, 10, []) := by rfl
theorem sh_51 : SH[51]? = some (0, 10, []) := by rfl
theorem sh_52 : SH[52]? = some (0, 6, []) := by rfl
theorem sh_53 : SH[53]? = some (0, 6, []) := by rfl
theorem sh_54 : SH[54]? = some (0, 6, []) := by rfl
theorem sh_55 : SH[55]? = some (1, 2, [some (some 56), some (some 61)]) := by rfl
theorem sh_56 : SH[56]? = some (4, 4, [some (some 57), some (some 58), some (some 59), some (some 60)]) := by rfl
theorem sh_57 : SH[57]? = some (0, 120, []) := by rfl
theorem sh_58 : SH[58]? = some (0, 120, []) := by rfl
theorem sh_59 : SH[59]? = some (0, 120, []) := by rfl
theorem sh_60 : SH[60]? = some (0, 120, []) := by rfl
theorem sh_61 : SH[61]? = some (4, 4, [some (some 62), some (some 63), some (some 64), some (some 65)]) := by rfl
theorem sh_62 : SH[62]? = some (0, 120, []) := by rfl
theorem sh_63 : SH[63]? = some (0, 120, []) := by rfl
theorem sh_64 : SH[64]? = some (0, 120, []) := by rfl
theorem sh_65 : SH[65]? = some (0, 120, []) := by rfl
theorem sh_66 : SH[66]? = some (6, 13, [some (some 67), some (some 68), none, some (some 69), some (some 70), some (some 71), none, some (some 72), some (some 73), some (some 74), none, none, some (some 75)]) := by rfl
theorem sh_67 : SH[67]? = some (0, 120, []) := by rfl
theorem sh_68 : SH[68]? = some (0, 120, []) := by rfl
theorem sh_69 : SH[69]? = some (0, 10, []) := by rfl
theorem sh_70 : SH[70]? = some (0, 10, []) := by rfl
theorem sh_71 : SH[71]? = some (0, 10, []) := by rfl
theorem sh_72 : SH[72]? = some (0, 6, []) := by rfl
theorem sh_73 : SH[73]? = some (0, 6, []) := by rfl
theorem sh_74 : SH[74]? = some (0, 6, []) := by rfl
theorem sh_75 : SH[75]? = some (1, 2, [some (some 76), some (some 81)]) := by rfl
theorem sh_76 : SH[76]? = some (4, 4, [some (some 77), some (some 78), some (some 79), some (some 80)]) := by rfl
theorem sh_77 : SH[77]? = some (0, 120, []) := by rfl
theorem sh_78 : SH[78]? = some (0, 120, []) := by rfl
theorem sh_79 : SH[79]? = some (0, 120, []) := by rfl
theorem sh_80 : SH[80]? = some (0, 120, []) := by rfl
theorem sh_81 : SH[81]? = some (4, 4, [some (some 82), some (some 83), some (some 84), some (some 85)]) := by rfl
theorem sh_82 : SH[82]? = some (0, 120, []) := by rfl
theorem sh_83 : SH[83]? = some (0, 120, []) := by rfl
theorem sh_84 : SH[84]? = some (0, 120, []) := by rfl
theorem sh_85 : SH[85]? = some (0, 120, []) := by rfl
theorem sh_86 : SH[86]? = some (6, 13, [some (some 87), some (some 88), none, some (some 89), some (some 90), some (some 91), none, some (some 92), some (some 93), some (some 94), none, none, some (some 95)]) := by rfl
theorem sh_87 : SH[87]? = some (0, 120, []) := by rfl
theorem sh_88 : SH[88]? = some (0, 120, []) := by rfl
theorem sh_89 : SH[89]? = some (0, 10, []) := by rfl
theorem sh_90 : SH[90]? = some (0, 10, []) := by rfl
theorem sh_91 : SH[91]? = some (0, 10, []) := by rfl
theorem sh_92 : SH[92]? = some (0, 6, []) := by rfl
theorem sh_93 : SH[93]? = some (0, 6, []) := by rfl
theorem sh_94 : SH[94]? = some (0, 6, []) := by rfl
theorem sh_95 : SH[95]? = some (1, 2, [some (some 96), some (some 101)]) := by rfl
theorem sh_96 : SH[96]? = some (4, 4, [some (some 97), some (some 98), some (some 99), some (some 100)]) := by rfl
theorem sh_97 : SH[97]? = some (0, 120, []) := by rfl
theorem sh_98 : SH[98]? = some (0, 120, []) := by rfl
theorem sh_99 : SH[99]? = some (0, 120, []) := by rfl
theorem sh_100 : SH[100]? = some (0, 120, []) := by rfl
theorem sh_101 : SH[101]? = some (4, 4, [some (some 102), some (some 103), some (some 104), some (some 105)]) := by rfl
theorem sh_102 : SH[102]? = some (0, 120, []) := by rfl
theorem sh_103 : SH[103]? = some (0, 120, []) := by rfl
theorem sh_104 : SH[104]? = some (0, 120, []) := by rfl
theorem sh_105 : SH[105]? = some (0, 120, []) := by rfl
theorem sh_106 : SH[106]? = some (6, 13, [some (some 107), some (some 108), none, some (some 109), some (some 110), some (some 111), none, some (some 112), some (some 113), some (some 114), none, none, some (some 115)]) := by rfl
theorem sh_107 : SH[107]? = some (0, 120, []) := by rfl
theorem sh_108 : SH[108]? = some (0, 120, []) := by rfl
theorem sh_109 : SH[109]? = some (0, 10, []) := by rfl
theorem sh_110 : SH[110]? = some (0, 10, []) := by rfl
theorem sh_111 : SH[111]? = some (0, 10, []) := by rfl
theorem sh_112 : SH[112]? = some (0, 6, []) := by rfl
theorem sh_113 : SH[113]? = some (0, 6, []) := by rfl
theorem sh_114 : SH[114]? = some (0, 6, []) := by rfl
theorem sh_115 : SH[115]? = some (1, 2, [some (some 116), some (some 121)]) := by rfl
theorem sh_116 : SH[116]? = some (4, 4, [some (some 117), some (some 118), some (some 119), some (some 120)]) := by rfl
theorem sh_117 : SH[117]? = some (0, 120, []) := by rfl
theorem sh_118 : SH[118]? = some (0, 120, []) := by rfl
theorem sh_119 : SH[119]? = some (0, 120, []) := by rfl
theorem sh_120 : SH[120]? = some (0, 120, []) := by rfl
theorem sh_121 : SH[121]? = some (4, 4, [some (some 122), some (some 123), some (some 124), some (some 125)]) := by rfl
theorem sh_122 : SH[122]? = some (0, 120, []) := by rfl
theorem sh_123 : SH[123]? = some (0, 120, []) := by rfl
theorem sh_124 : SH[124]? = some (0, 120, []) := by rfl
theorem sh_125 : SH[125]? = some (0, 120, []) := by rfl
theorem sh_126 : SH[126]? = some (7, 3, [some (some 127), none, some (some 128)]) := by rfl
theorem sh_127 : SH[127]? = some (0, 120, []) := by rfl
theorem sh_128 : SH[128]? = some (0, 120, []) := by rfl
theorem sh_129 : SH[129]? = some (8, 3, [some (some 130), some (some 131), none]) := by rfl
theorem sh_130 : SH[130]? = some (0, 120, []) := by rfl
theorem sh_131 : SH[131]? = some (0, 120, []) := by rfl
/-- from here the method comes to its end with the answer r and the memory M2; the shapes stay -/
def VQ (μ : Mu) (d pc : Nat) (lv : List (Option AV)) (st : List AV) (M : Mem) (Q : Option AV → Mem → Prop) : Prop := V μ d 0 0 pc lv st SH M 0 0 (fun r' sh' M' => sh' = SH ∧ Q r' M')
abbrev VX (μ : Mu) (d pc : Nat) (lv : List (Option AV)) (st : List AV) (M : Mem) (r : Option AV) (M2 : Mem) : Prop := VQ μ d pc lv st M (fun r' M' => r' = r ∧ M' = M2)
def CQ (μ : Mu) (d : Nat) (vs : List AV) (M : Mem) (Q : Option AV → Mem → Prop) : Prop := CT μ d 0 0 vs SH M (fun r' sh' M' => sh' = SH ∧ Q r' M')
abbrev CX (μ : Mu) (d : Nat) (vs : List AV) (M : Mem) (r : Option AV) (M2 : Mem) : Prop := CQ μ d vs M (fun r' M' => r' = r ∧ M' = M2)
theorem CX.of {μ : Mu} {d : Nat} {vs : List AV} {M : Mem} {Q : Option AV → Mem → Prop} (hy : plainFor μ.1 = true) (hn : vs.length ≤ μ.2.2.1) (lv : List (Option AV)) (hlv : ent0 μ.2.2.1 vs = lv) (h : VQ μ d 0 lv [] M Q) : CQ μ d vs M Q := CT.of hy hn lv hlv h
theorem CQ.mono {μ : Mu} {d : Nat} {vs : List AV} {M : Mem} {Q Q' : Option AV → Mem → Prop} (h : CQ μ d vs M Q) (hq : ∀ r M', Q r M' → Q' r M') : CQ μ d vs M Q' := CT.mono h fun r sh' M' q => ⟨q.1, hq r M' q.2⟩
section XR
variable {μ ν : Mu} {d pc d' : Nat} {lv : List (Option AV)} {st rest As : List AV} {M M2 : Mem} {r : Option AV} {Q : Option AV → Mem → Prop}
theorem X.iconst {n : Int} (hd : decode μ.2.1 pc = .ok (.iconst n, 1)) (k : VQ μ d (pc + 1) lv (.inl n :: st) M Q) : VQ μ d (pc) lv (st) M Q := V.iconst hd k
theorem X.bipush {n : Int} (hd : decode μ.2.1 pc = .ok (.bipush n, 2)) (hn : -128 ≤ n ∧ n ≤ 127) (k : VQ μ d (pc + 2) lv (.inl n :: st) M Q) : VQ μ d (pc) lv (st) M Q := V.bipush hd hn k
theorem X.sipush {n : Int} (hd : decode μ.2.1 pc = .ok (.sipush n, 3)) (hn : -32768 ≤ n ∧ n ≤ 32767) (k : VQ μ d (pc + 3) lv (.inl n :: st) M Q) : VQ μ d (pc) lv (st) M Q := V.sipush hd hn k
theorem X.iload_n {j : Fin 4} {x : Int} (hd : decode μ.2.1 pc = .ok (.iload_n j, 1)) (hl : lv[(j : Nat)]? = some (some (.inl x))) (k : VQ μ d (pc + 1) lv (.inl x :: st) M Q) : VQ μ d (pc) lv (st) M Q := V.iload_n hd hl k
theorem X.iload {i : Nat} {x : Int} (hd : decode μ.2.1 pc = .ok (.iload i, 2)) (hl : lv[i]? = some (some (.inl x))) (k : VQ μ d (pc + 2) lv (.inl x :: st) M Q) : VQ μ d (pc) lv (st) M Q := V.iload hd hl k
theorem X.aload_n {j : Fin 4} {x : Nat} (hd : decode μ.2.1 pc = .ok (.aload_n j, 1)) (hl : lv[(j : Nat)]? = some (some (.inr (some x)))) (k : VQ μ d (pc + 1) lv (.inr (some x) :: st) M Q) : VQ μ d (pc) lv (st) M Q := V.aload_n hd hl k
theorem X.aload {i : Nat} {x : Nat} (hd : decode μ.2.1 pc = .ok (.aload i, 2)) (hl : lv[i]? = some (some (.inr (some x)))) (k : VQ μ d (pc + 2) lv (.inr (some x) :: st) M Q) : VQ μ d (pc) lv (st) M Q := V.aload hd hl k
theorem X.istore_n {j : Fin 4} {lv2 : List (Option AV)} {x : Int} (hd : decode μ.2.1 pc = .ok (.istore_n j, 1)) (hi : (j : Nat) < lv.length) (hl : lv.set (j : Nat) (some (.inl x)) = lv2) (k : VQ μ d (pc + 1) lv2 (st) M Q) : VQ μ d (pc) lv (.inl x :: st) M Q := V.istore_n hd hi hl k
theorem X.istore {i : Nat} {lv2 : List (Option AV)} {x : Int} (hd : decode μ.2.1 pc = .ok (.istore i, 2)) (hi : i < lv.length) (hl : lv.set i (some (.inl x)) = lv2) (k : VQ μ d (pc + 2) lv2 (st) M Q) : VQ μ d (pc) lv (.inl x :: st) M Q := V.istore hd hi hl k
theorem X.astore_n {j : Fin 4} {lv2 : List (Option AV)} {x : Nat} (hd : decode μ.2.1 pc = .ok (.astore_n j, 1)) (hi : (j : Nat) < lv.length) (hl : lv.set (j : Nat) (some (.inr (some x))) = lv2) (k : VQ μ d (pc + 1) lv2 (st) M Q) : VQ μ d (pc) lv (.inr (some x) :: st) M Q := V.astore_n hd hi hl k
theorem X.astore {i : Nat} {lv2 : List (Option AV)} {x : Nat} (hd : decode μ.2.1 pc = .ok (.astore i, 2)) (hi : i < lv.length) (hl : lv.set i (some (.inr (some x))) = lv2) (k : VQ μ d (pc + 2) lv2 (st) M Q) : VQ μ d (pc) lv (.inr (some x) :: st) M Q := V.astore hd hi hl k
theorem X.iinc {i : Nat} {n x y : Int} {lv2 : List (Option AV)} (hd : decode μ.2.1 pc = .ok (.iinc i n, 3)) (hl : lv[i]? = some (some (.inl x))) (hy : x + n = y) (h2 : lv.set i (some (.inl y)) = lv2) (k : VQ μ d (pc + 3) lv2 (st) M Q) : VQ μ d (pc) lv (st) M Q := V.iinc hd hl hy h2 k
theorem X.iadd {a b c : Int} (hd : decode μ.2.1 pc = .ok (.iadd, 1)) (hc : a + b = c) (k : VQ μ d (pc + 1) lv (.inl c :: st) M Q) : VQ μ d (pc) lv (.inl b :: .inl a :: st) M Q := V.iadd hd (hc ▸ k)
theorem X.isub {a b c : Int} (hd : decode μ.2.1 pc = .ok (.isub, 1)) (hc : a - b = c) (k : VQ μ d (pc + 1) lv (.inl c :: st) M Q) : VQ μ d (pc) lv (.inl b :: .inl a :: st) M Q := V.isub hd (hc ▸ k)
theorem X.imul {a b c : Int} (hd : decode μ.2.1 pc = .ok (.imul, 1)) (hc : a * b = c) (k : VQ μ d (pc + 1) lv (.inl c :: st) M Q) : VQ μ d (pc) lv (.inl b :: .inl a :: st) M Q := V.imul hd (hc ▸ k)
theorem X.iand {a b c : Int} (hd : decode μ.2.1 pc = .ok (.iand, 1)) (hc : iAnd a b = c) (k : VQ μ d (pc + 1) lv (.inl c :: st) M Q) : VQ μ d (pc) lv (.inl b :: .inl a :: st) M Q := V.iand hd (hc ▸ k)
theorem X.ior {a b c : Int} (hd : decode μ.2.1 pc = .ok (.ior, 1)) (hc : iOr a b = c) (k : VQ μ d (pc + 1) lv (.inl c :: st) M Q) : VQ μ d (pc) lv (.inl b :: .inl a :: st) M Q := V.ior hd (hc ▸ k)
theorem X.ixor {a b c : Int} (hd : decode μ.2.1 pc = .ok (.ixor, 1)) (hc : iXor a b = c) (k : VQ μ d (pc + 1) lv (.inl c :: st) M Q) : VQ μ d (pc) lv (.inl b :: .inl a :: st) M Q := V.ixor hd (hc ▸ k)
theorem X.ishl {a b c : Int} (hd : decode μ.2.1 pc = .ok (.ishl, 1)) (hc : iShl a b = c) (k : VQ μ d (pc + 1) lv (.inl c :: st) M Q) : VQ μ d (pc) lv (.inl b :: .inl a :: st) M Q := V.ishl hd (hc ▸ k)
theorem X.ineg {a c : Int} (hd : decode μ.2.1 pc = .ok (.ineg, 1)) (hc : -a = c) (k : VQ μ d (pc + 1) lv (.inl c :: st) M Q) : VQ μ d (pc) lv (.inl a :: st) M Q := V.ineg hd (hc ▸ k)
theorem X.idiv {a b c : Int} (hd : decode μ.2.1 pc = .ok (.idiv, 1)) (ha : 0 ≤ a ∧ a ≤ 2147483647) (hb : 0 < b ∧ b ≤ 2147483647) (hc : a / b = c) (k : VQ μ d (pc + 1) lv (.inl c :: st) M Q) : VQ μ d (pc) lv (.inl b :: .inl a :: st) M Q := V.idiv hd ha hb (hc ▸ k)
theorem X.irem {a b c : Int} (hd : decode μ.2.1 pc = .ok (.irem, 1)) (ha : 0 ≤ a ∧ a ≤ 2147483647) (hb : 0 < b ∧ b ≤ 2147483647) (hc : a % b = c) (k : VQ μ d (pc + 1) lv (.inl c :: st) M Q) : VQ μ d (pc) lv (.inl b :: .inl a :: st) M Q := V.irem hd ha hb (hc ▸ k)
theorem X.idivT {a b : Int} (hd : decode μ.2.1 pc = .ok (.idiv, 1)) (ha : inR a) (hb : inR b) (h0 : b ≠ 0) (k : VQ μ d (pc + 1) lv (.inl (a.tdiv b) :: st) M Q) : VQ μ d (pc) lv (.inl b :: .inl a :: st) M Q := V.idivT hd ha hb h0 k
theorem X.iremT {a b : Int} (hd : decode μ.2.1 pc = .ok (.irem, 1)) (ha : inR a) (hb : inR b) (h0 : b ≠ 0) (k : VQ μ d (pc + 1) lv (.inl (a.tmod b) :: st) M Q) : VQ μ d (pc) lv (.inl b :: .inl a :: st) M Q := V.iremT hd ha hb h0 k
theorem X.icmp_eq {a b : Int} {off : Int} {tgt : Nat} (hd : decode μ.2.1 pc = .ok (.if_icmp .eq off, 3)) (ht : (pc : Int) + off = (tgt : Int)) (ha : inR a) (hb : inR b) (kt : a = b → VQ μ d (tgt) lv (st) M Q) (kf : ¬ a = b → VQ μ d (pc + 3) lv (st) M Q) : VQ μ d (pc) lv (.inl b :: .inl a :: st) M Q := V.icmp_eq hd ht ha hb kt kf
theorem X.if_eq {a : Int} {off : Int} {tgt : Nat} (hd : decode μ.2.1 pc = .ok (.ifCond .eq off, 3)) (ht : (pc : Int) + off = (tgt : Int)) (ha : inR a) (kt : a = 0 → VQ μ d (tgt) lv (st) M Q) (kf : ¬ a = 0 → VQ μ d (pc + 3) lv (st) M Q) : VQ μ d (pc) lv (.inl a :: st) M Q := V.if_eq hd ht ha kt kf
theorem X.icmp_ne {a b : Int} {off : Int} {tgt : Nat} (hd : decode μ.2.1 pc = .ok (.if_icmp .ne off, 3)) (ht : (pc : Int) + off = (tgt : Int)) (ha : inR a) (hb : inR b) (kt : ¬ a = b → VQ μ d (tgt) lv (st) M Q) (kf : a = b → VQ μ d (pc + 3) lv (st) M Q) : VQ μ d (pc) lv (.inl b :: .inl a :: st) M Q := V.icmp_ne hd ht ha hb kt kf
theorem X.if_ne {a : Int} {off : Int} {tgt : Nat} (hd : decode μ.2.1 pc = .ok (.ifCond .ne off, 3)) (ht : (pc : Int) + off = (tgt : Int)) (ha : inR a) (kt : ¬ a = 0 → VQ μ d (tgt) lv (st) M Q) (kf : a = 0 → VQ μ d (pc + 3) lv (st) M Q) : VQ μ d (pc) lv (.inl a :: st) M Q := V.if_ne hd ht ha kt kf
theorem X.icmp_lt {a b : Int} {off : Int} {tgt : Nat} (hd : decode μ.2.1 pc = .ok (.if_icmp .lt off, 3)) (ht : (pc : Int) + off = (tgt : Int)) (ha : inR a) (hb : inR b) (kt : a < b → VQ μ d (tgt) lv (st) M Q) (kf : b ≤ a → VQ μ d (pc + 3) lv (st) M Q) : VQ μ d (pc) lv (.inl b :: .inl a :: st) M Q := V.icmp_lt hd ht ha hb kt kf
theorem X.if_lt {a : Int} {off : Int} {tgt : Nat} (hd : decode μ.2.1 pc = .ok (.ifCond .lt off, 3)) (ht : (pc : Int) + off = (tgt : Int)) (ha : inR a) (kt : a < 0 → VQ μ d (tgt) lv (st) M Q) (kf : 0 ≤ a → VQ μ d (pc + 3) lv (st) M Q) : VQ μ d (pc) lv (.inl a :: st) M Q := V.if_lt hd ht ha kt kf
theorem X.icmp_ge {a b : Int} {off : Int} {tgt : Nat} (hd : decode μ.2.1 pc = .ok (.if_icmp .ge off, 3)) (ht : (pc : Int) + off = (tgt : Int)) (ha : inR a) (hb : inR b) (kt : b ≤ a → VQ μ d (tgt) lv (st) M Q) (kf : a < b → VQ μ d (pc + 3) lv (st) M Q) : VQ μ d (pc) lv (.inl b :: .inl a :: st) M Q := V.icmp_ge hd ht ha hb kt kf
theorem X.if_ge {a : Int} {off : Int} {tgt : Nat} (hd : decode μ.2.1 pc = .ok (.ifCond .ge off, 3)) (ht : (pc : Int) + off = (tgt : Int)) (ha : inR a) (kt : 0 ≤ a → VQ μ d (tgt) lv (st) M Q) (kf : a < 0 → VQ μ d (pc + 3) lv (st) M Q) : VQ μ d (pc) lv (.inl a :: st) M Q := V.if_ge hd ht ha kt kf
theorem X.icmp_gt {a b : Int} {off : Int} {tgt : Nat} (hd : decode μ.2.1 pc = .ok (.if_icmp .gt off, 3)) (ht : (pc : Int) + off = (tgt : Int)) (ha : inR a) (hb : inR b) (kt : b < a → VQ μ d (tgt) lv (st) M Q) (kf : a ≤ b → VQ μ d (pc + 3) lv (st) M Q) : VQ μ d (pc) lv (.inl b :: .inl a :: st) M Q := V.icmp_gt hd ht ha hb kt kf
theorem X.if_gt {a : Int} {off : Int} {tgt : Nat} (hd : decode μ.2.1 pc = .ok (.ifCond .gt off, 3)) (ht : (pc : Int) + off = (tgt : Int)) (ha : inR a) (kt : 0 < a → VQ μ d (tgt) lv (st) M Q) (kf : a ≤ 0 → VQ μ d (pc + 3) lv (st) M Q) : VQ μ d (pc) lv (.inl a :: st) M Q := V.if_gt hd ht ha kt kf
theorem X.icmp_le {a b : Int} {off : Int} {tgt : Nat} (hd : decode μ.2.1 pc = .ok (.if_icmp .le off, 3)) (ht : (pc : Int) + off = (tgt : Int)) (ha : inR a) (hb : inR b) (kt : a ≤ b → VQ μ d (tgt) lv (st) M Q) (kf : b < a → VQ μ d (pc + 3) lv (st) M Q) : VQ μ d (pc) lv (.inl b :: .inl a :: st) M Q := V.icmp_le hd ht ha hb kt kf
theorem X.if_le {a : Int} {off : Int} {tgt : Nat} (hd : decode μ.2.1 pc = .ok (.ifCond .le off, 3)) (ht : (pc : Int) + off = (tgt : Int)) (ha : inR a) (kt : a ≤ 0 → VQ μ d (tgt) lv (st) M Q) (kf : 0 < a → VQ μ d (pc + 3) lv (st) M Q) : VQ μ d (pc) lv (.inl a :: st) M Q := V.if_le hd ht ha kt kf
theorem X.goto {off : Int} {tgt : Nat} (hd : decode μ.2.1 pc = .ok (.goto off, 3)) (ht : (pc : Int) + off = (tgt : Int)) (k : VQ μ d (tgt) lv (st) M Q) : VQ μ d (pc) lv (st) M Q := V.goto hd ht k
theorem X.tabOut {dflt lo hi : Int} {offs : Array Int} {len tgt : Nat} {a : Int} (hd : decode μ.2.1 pc = .ok (.tableswitch dflt lo hi offs, len)) (ha : inR a) (h : a < lo ∨ hi < a) (ht : (pc : Int) + dflt = (tgt : Int)) (k : VQ μ d (tgt) lv (st) M Q) : VQ μ d (pc) lv (.inl a :: st) M Q := V.tabOut hd ha h ht k
theorem X.tabIn {dflt lo hi : Int} {offs : Array Int} {len tgt : Nat} {a off : Int} (hd : decode μ.2.1 pc = .ok (.tableswitch dflt lo hi offs, len)) (ha : inR a) (h1 : lo ≤ a) (h2 : a ≤ hi) (ho : offs[(a - lo).toNat]? = some off) (ht : (pc : Int) + off = (tgt : Int)) (k : VQ μ d (tgt) lv (st) M Q) : VQ μ d (pc) lv (.inl a :: st) M Q := V.tabIn hd ha h1 h2 ho ht k
theorem X.dup {v : AV} (hd : decode μ.2.1 pc = .ok (.dup, 1)) (k : VQ μ d (pc + 1) lv (v :: v :: st) M Q) : VQ μ d (pc) lv (v :: st) M Q := V.dup hd k
theorem X.dup2 {v x : AV} (hd : decode μ.2.1 pc = .ok (.dup2, 1)) (k : VQ μ d (pc + 1) lv (v :: x :: v :: x :: st) M Q) : VQ μ d (pc) lv (v :: x :: st) M Q := V.dup2 hd k
theorem X.pop {v : AV} (hd : decode μ.2.1 pc = .ok (.pop, 1)) (k : VQ μ d (pc + 1) lv (st) M Q) : VQ μ d (pc) lv (v :: st) M Q := V.pop hd k
theorem X.getI {idx a t n : Nat} (k0 : Nat) {fs : List (Option (Option Nat))} {fin : Bool} {ty : FieldType} {v : Int} (hd : decode μ.2.1 pc = .ok (.getfield idx, 3)) (hf : FI μ.1.cls idx t k0 fin ty) (hs : SH[a]? = some (t + 3, n, fs)) (hv : fs[k0]? = some none) (he : M a (k0 : Int) = v) (k : VQ μ d (pc + 3) lv (.inl v :: st) M Q) : VQ μ d (pc) lv (.inr (some a) :: st) M Q := V.getI k0 hd hf hs hv (he ▸ k)
theorem X.getR {idx a t n k0 b : Nat} {fs : List (Option (Option Nat))} {fin : Bool} {ty : FieldType} (hd : decode μ.2.1 pc = .ok (.getfield idx, 3)) (hf : FI μ.1.cls idx t k0 fin ty) (hs : SH[a]? = some (t + 3, n, fs)) (hv : fs[k0]? = some (some (some b))) (k : VQ μ d (pc + 3) lv (.inr (some b) :: st) M Q) : VQ μ d (pc) lv (.inr (some a) :: st) M Q := V.getR hd hf hs hv k
theorem X.putI {idx a t n : Nat} (k0 : Nat) (kI : Int) (hkI : (k0 : Int) = kI) {fs : List (Option (Option Nat))} {x : Int} (hd : decode μ.2.1 pc = .ok (.putfield idx, 3)) (hf : FI μ.1.cls idx t k0 false .int) (hs : SH[a]? = some (t + 3, n, fs)) (hn : fs.length = n) (hv : fs[k0]? = some none) (k : VQ μ d (pc + 3) lv (st) (mset M a kI x) Q) : VQ μ d (pc) lv (.inl x :: .inr (some a) :: st) M Q := V.putI k0 hd hf hs hn hv (hkI ▸ k)
theorem X.iald {a n : Nat} {fs : List (Option (Option Nat))} {i v : Int} (hd : decode μ.2.1 pc = .ok (.iaload, 1)) (hs : SH[a]? = some (0, n, fs)) (hn : n ≤ 2147483647) (hi : 0 ≤ i ∧ i < (n : Int)) (he : M a i = v) (k : VQ μ d (pc + 1) lv (.inl v :: st) M Q) : VQ μ d (pc) lv (.inl i :: .inr (some a) :: st) M Q := V.iald hd hs hn hi (he ▸ k)
theorem X.iast {a n : Nat} {fs : List (Option (Option Nat))} {i x : Int} (hd : decode μ.2.1 pc = .ok (.iastore, 1)) (hs : SH[a]? = some (0, n, fs)) (hn : n ≤ 2147483647) (hi : 0 ≤ i ∧ i < (n : Int)) (k : VQ μ d (pc + 1) lv (st) (mset M a i x) Q) : VQ μ d (pc) lv (.inl x :: .inl i :: .inr (some a) :: st) M Q := V.iast hd hs hn hi k
theorem X.aald {a n t b : Nat} {fs : List (Option (Option Nat))} {i : Int} (hd : decode μ.2.1 pc = .ok (.aaload, 1)) (hs : SH[a]? = some (t, n, fs)) (ht : t = 1 ∨ t = 2) (hn : n ≤ 2147483647) (hi : 0 ≤ i ∧ i < (n : Int)) (hv : fs[i.toNat]? = some (some (some b))) (k : VQ μ d (pc + 1) lv (.inr (some b) :: st) M Q) : VQ μ d (pc) lv (.inl i :: .inr (some a) :: st) M Q := V.aald hd hs ht hn hi hv k
theorem X.alen {a n : Nat} {fs : List (Option (Option Nat))} (hd : decode μ.2.1 pc = .ok (.arraylength, 1)) (hs : SH[a]? = some (0, n, fs)) (k : VQ μ d (pc + 1) lv (.inl (n : Int) :: st) M Q) : VQ μ d (pc) lv (.inr (some a) :: st) M Q := V.alen hd hs k
theorem X.iret {z : Int} (hd : decode μ.2.1 pc = .ok (.ireturn, 1)) (hr : μ.2.2.2 = some .int) (e1 : some (.inl z) = r) (e2 : M = M2) : VX μ d (pc) lv ([.inl z]) M r M2 := V.iret hd hr (Nat.le_refl _) (Nat.le_refl _) ⟨rfl, e1, e2⟩
theorem X.zret {z : Int} (hd : decode μ.2.1 pc = .ok (.ireturn, 1)) (hr : μ.2.2.2 = some .boolean) (hz : z = 0 ∨ z = 1) (e1 : some (.inl z) = r) (e2 : M = M2) : VX μ d (pc) lv ([.inl z]) M r M2 := V.zret hd hr hz (Nat.le_refl _) (Nat.le_refl _) ⟨rfl, e1, e2⟩
theorem X.vret (hd : decode μ.2.1 pc = .ok (.return_, 1)) (hr : μ.2.2.2 = none) (e1 : none = r) (e2 : M = M2) : VX μ d (pc) lv ([]) M r M2 := V.vret hd hr (Nat.le_refl _) (Nat.le_refl _) ⟨rfl, e1, e2⟩
theorem Y.iret {z : Int} (hd : decode μ.2.1 pc = .ok (.ireturn, 1)) (hr : μ.2.2.2 = some .int) (q : Q (some (.inl z)) M) : VQ μ d (pc) lv ([.inl z]) M Q := V.iret hd hr (Nat.le_refl _) (Nat.le_refl _) ⟨rfl, q⟩
theorem Y.zret {z : Int} (hd : decode μ.2.1 pc = .ok (.ireturn, 1)) (hr : μ.2.2.2 = some .boolean) (hz : z = 0 ∨ z = 1) (q : Q (some (.inl z)) M) : VQ μ d (pc) lv ([.inl z]) M Q := V.zret hd hr hz (Nat.le_refl _) (Nat.le_refl _) ⟨rfl, q⟩
theorem Y.vret (hd : decode μ.2.1 pc = .ok (.return_, 1)) (hr : μ.2.2.2 = none) (q : Q none M) : VQ μ d (pc) lv ([]) M Q := V.vret hd hr (Nat.le_refl _) (Nat.le_refl _) ⟨rfl, q⟩
theorem Y.callV {idx a t n nf : Nat} {fs : List (Option (Option Nat))} {Q' : Option AV → Mem → Prop} (hd : decode μ.2.1 pc = .ok (.invokevirtual idx, 3)) (hk : KV μ.1.cls idx ν n t) (hs : SH[a]? = some (t + 3, nf, fs)) (hM : CQ ν d' (.inr (some a) :: As) M Q') (hn : As.length = n) (hdd : d' + 1 ≤ d) (hst : st = As.reverse ++ .inr (some a) :: rest) (hr : rest.length ≤ 8) (k : ∀ r' M', Q' r' M' → VQ μ d (pc + 3) lv (r'.toList ++ rest) M' Q) : VQ μ d (pc) lv (st) M Q := V.callV hd hk hs hM hn hdd hst hr (Nat.le_refl _) (Nat.le_refl _) (fun q sh' M'' h => by obtain ⟨rfl, h2⟩ := h; exact k _ _ h2)
theorem Y.callS {idx n : Nat} {Q' : Option AV → Mem → Prop} (hd : decode μ.2.1 pc = .ok (.invokestatic idx, 3)) (hk : KS μ.1.cls idx ν n) (hM : CQ ν d' As M Q') (hn : As.length = n) (hdd : d' + 1 ≤ d) (hst : st = As.reverse ++ rest) (hr : rest.length ≤ 8) (k : ∀ r' M', Q' r' M' → VQ μ d (pc + 3) lv (r'.toList ++ rest) M' Q) : VQ μ d (pc) lv (st) M Q := V.callS hd hk hM hn hdd hst hr (Nat.le_refl _) (Nat.le_refl _) (fun q sh' M'' h => by obtain ⟨rfl, h2⟩ := h; exact k _ _ h2)
theorem Y.callN {idx n : Nat} {Q' : Option AV → Mem → Prop} (hd : decode μ.2.1 pc = .ok (.invokestatic idx, 3)) (hk : KN μ.1.cls idx ν n) (hM : CQ ν d' As M Q') (hn : As.length = n) (hdd : d' + 1 ≤ d) (hst : st = As.reverse ++ rest) (hr : rest.length ≤ 8) (k : ∀ r' M', Q' r' M' → VQ μ d (pc + 3) lv (r'.toList ++ rest) M' Q) : VQ μ d (pc) lv (st) M Q := V.callN hd hk hM hn hdd hst hr (Nat.le_refl _) (Nat.le_refl _) (fun q sh' M'' h => by obtain ⟨rfl, h2⟩ := h; exact k _ _ h2)
theorem X.callV {idx a t n nf : Nat} {fs : List (Option (Option Nat))} {r' : Option AV} {M' : Mem} (hd : decode μ.2.1 pc = .ok (.invokevirtual idx, 3)) (hk : KV μ.1.cls idx ν n t) (hs : SH[a]? = some (t + 3, nf, fs)) (hM : CX ν d' (.inr (some a) :: As) M r' M') (hn : As.length = n) (hdd : d' + 1 ≤ d) (hst : st = As.reverse ++ .inr (some a) :: rest) (hr : rest.length ≤ 8) (k : VQ μ d (pc + 3) lv (r'.toList ++ rest) M' Q) : VQ μ d (pc) lv (st) M Q := V.callV hd hk hs hM hn hdd hst hr (Nat.le_refl _) (Nat.le_refl _) (fun q sh' M'' h => by obtain ⟨rfl, rfl, rfl⟩ := h; exact k)
theorem X.callS {idx n : Nat} {r' : Option AV} {M' : Mem} (hd : decode μ.2.1 pc = .ok (.invokestatic idx, 3)) (hk : KS μ.1.cls idx ν n) (hM : CX ν d' As M r' M') (hn : As.length = n) (hdd : d' + 1 ≤ d) (hst : st = As.reverse ++ rest) (hr : rest.length ≤ 8) (k : VQ μ d (pc + 3) lv (r'.toList ++ rest) M' Q) : VQ μ d (pc) lv (st) M Q := V.callS hd hk hM hn hdd hst hr (Nat.le_refl _) (Nat.le_refl _) (fun q sh' M'' h => by obtain ⟨rfl, rfl, rfl⟩ := h; exact k)
theorem X.callN {idx n : Nat} {r' : Option AV} {M' : Mem} (hd : decode μ.2.1 pc = .ok (.invokestatic idx, 3)) (hk : KN μ.1.cls idx ν n) (hM : CX ν d' As M r' M') (hn : As.length = n) (hdd : d' + 1 ≤ d) (hst : st = As.reverse ++ rest) (hr : rest.length ≤ 8) (k : VQ μ d (pc + 3) lv (r'.toList ++ rest) M' Q) : VQ μ d (pc) lv (st) M Q := V.callN hd hk hM hn hdd hst hr (Nat.le_refl _) (Nat.le_refl _) (fun q sh' M'' h => by obtain ⟨rfl, rfl, rfl⟩ := h; exact k)
theorem X.acopy {idx a b n : Nat} {fs gs : List (Option (Option Nat))} {len : Int} (hd : decode μ.2.1 pc = .ok (.invokestatic idx, 3)) (hk : Cond.methodLink μ.1.cls idx arraycopyName ∈ fm_TBL) (ha : SH[a]? = some (0, n, fs)) (hb : SH[b]? = some (0, n, gs)) (hln : len = (n : Int)) (hnn : n ≤ 100000) (hdd : 2 ≤ d) (hr : st.length ≤ 8) (k : VQ μ d (pc + 3) lv (st) (mrow M b (M a)) Q) : VQ μ d (pc) lv (.inl len :: .inl 0 :: .inr (some b) :: .inl 0 :: .inr (some a) :: st) M Q := V.acopy hd hk ki_J10 ha hb hln hnn hdd hr k
theorem X.mabs {idx : Nat} {a c : Int} (hd : decode μ.2.1 pc = .ok (.invokestatic idx, 3)) (hk : Cond.methodLink μ.1.cls idx Lib.Math.abs.name ∈ fm_TBL) (ha : inR a) (hdd : 1 ≤ d) (hr : st.length ≤ 8) (hc : (if 0 ≤ a then a else -a) = c) (k : VQ μ d (pc + 3) lv (.inl c :: st) M Q) : VQ μ d (pc) lv (.inl a :: st) M Q := V.mabs hd hk ha hdd hr (Nat.le_refl _) (Nat.le_refl _) (hc ▸ k)
theorem X.mmax {idx : Nat} {a b c : Int} (hd : decode μ.2.1 pc = .ok (.invokestatic idx, 3)) (hk : Cond.methodLink μ.1.cls idx Lib.Math.max.name ∈ fm_TBL) (ha : inR a) (hb : inR b) (hdd : 1 ≤ d) (hr : st.length ≤ 8) (hc : (if a < b then b else a) = c) (k : VQ μ d (pc + 3) lv (.inl c :: st) M Q) : VQ μ d (pc) lv (.inl b :: .inl a :: st) M Q := V.mmax hd hk ha hb hdd hr (Nat.le_refl _) (Nat.le_refl _) (hc ▸ k)
theorem X.mmin {idx : Nat} {a b c : Int} (hd : decode μ.2.1 pc = .ok (.invokestatic idx, 3)) (hk : Cond.methodLink μ.1.cls idx Lib.Math.min.name ∈ fm_TBL) (ha : inR a) (hb : inR b) (hdd : 1 ≤ d) (hr : st.length ≤ 8) (hc : (if b < a then b else a) = c) (k : VQ μ d (pc + 3) lv (.inl c :: st) M Q) : VQ μ d (pc) lv (.inl b :: .inl a :: st) M Q := V.mmin hd hk ha hb hdd hr (Nat.le_refl _) (Nat.le_refl _) (hc ▸ k)
end XR
