/-! certificates: what the tables say of methods, links, fields (by program wip/p25/gen_cert.py) -/
theorem kf_X7_26 : zF RX7 26 7 2 := ⟨RX7, TX7, 8, tyX7, rfl, rfl, by decide, zu_7, zG_in 188 (by decide +kernel) rfl, rfl, tyX7_ok, nmX7, fun h => absurd h (by decide), fun _ => ⟨rfl, fun a => ⟨rfl, rfl⟩⟩⟩
theorem kn_X7_30 : zN RX7 30 6 := ⟨RX6, TX6, 3, tyX6, rfl, rfl, zu_6, zG_in 94 (by decide +kernel) rfl, zG_in 95 (by decide +kernel) rfl, zG_in 5 (by decide +kernel) rfl, tyX6_ok, by decide +kernel⟩
theorem kl_X7_32 : zLIN RX7 32 yX6_init := ⟨⟨"PortolanHall", by decide +kernel⟩, zG_in 97 (by decide +kernel) rfl, rfl⟩
theorem kf_X7_33 : zF RX7 33 7 3 := ⟨RX7, TX7, 8, tyX7, rfl, rfl, by decide, zu_7, zG_in 189 (by decide +kernel) rfl, rfl, tyX7_ok, nmX7, fun h => absurd h (by decide), fun _ => ⟨rfl, fun a => ⟨rfl, rfl⟩⟩⟩
theorem kq_X7_37 : Cond.classLink RX7 37 RX2 ∈ zG := zG_in 110 (by decide +kernel) rfl
theorem kf_X7_39 : zF RX7 39 7 4 := ⟨RX7, TX7, 8, tyX7, rfl, rfl, by decide, zu_7, zG_in 190 (by decide +kernel) rfl, rfl, tyX7_ok, nmX7, fun h => absurd h (by decide), fun _ => ⟨rfl, fun a => ⟨rfl, rfl⟩⟩⟩
theorem kq_X7_43 : Cond.classLink RX7 43 RX0 ∈ zG := zG_in 112 (by decide +kernel) rfl
theorem kf_X7_45 : zF RX7 45 7 5 := ⟨RX7, TX7, 8, tyX7, rfl, rfl, by decide, zu_7, zG_in 191 (by decide +kernel) rfl, rfl, tyX7_ok, nmX7, fun h => absurd h (by decide), fun _ => ⟨rfl, fun a => ⟨rfl, rfl⟩⟩⟩
theorem kn_X7_49 : zN RX7 49 3 := ⟨RX3, TX3, 4, tyX3, rfl, rfl, zu_3, zG_in 114 (by decide +kernel) rfl, zG_in 115 (by decide +kernel) rfl, zG_in 6 (by decide +kernel) rfl, tyX3_ok, by decide +kernel⟩
theorem kl_X7_51 : zLIN RX7 51 yX3_init := ⟨⟨"PortolanHall", by decide +kernel⟩, zG_in 117 (by decide +kernel) rfl, rfl⟩
theorem kf_X7_52 : zF RX7 52 7 6 := ⟨RX7, TX7, 8, tyX7, rfl, rfl, by decide, zu_7, zG_in 192 (by decide +kernel) rfl, rfl, tyX7_ok, nmX7, fun h => absurd h (by decide), fun _ => ⟨rfl, fun a => ⟨rfl, rfl⟩⟩⟩
theorem kf_X7_56 : zF RX7 56 7 7 := ⟨RX7, TX7, 8, tyX7, rfl, rfl, by decide, zu_7, zG_in 193 (by decide +kernel) rfl, rfl, tyX7_ok, nmX7, fun _ => ⟨rfl, rfl⟩, fun h => absurd h (by decide)⟩
theorem kn_X7_37 : zN RX7 37 2 := ⟨RX2, TX2, 2, tyX2, rfl, rfl, zu_2, zG_in 110 (by decide +kernel) rfl, zG_in 137 (by decide +kernel) rfl, zG_in 7 (by decide +kernel) rfl, tyX2_ok, by decide +kernel⟩
theorem kl_X7_60 : zLI RX7 60 yX2_init := ⟨zG_in 138 (by decide +kernel) rfl, zG_in 139 (by decide +kernel) rfl, rfl⟩
theorem kn_X7_43 : zN RX7 43 0 := ⟨RX0, TX0, 7, tyX0, rfl, rfl, zu_0, zG_in 112 (by decide +kernel) rfl, zG_in 151 (by decide +kernel) rfl, zG_in 8 (by decide +kernel) rfl, tyX0_ok, by decide +kernel⟩
theorem kl_X7_61 : zLIN RX7 61 yX0_init := ⟨⟨"PortolanHall", by decide +kernel⟩, zG_in 153 (by decide +kernel) rfl, rfl⟩
theorem kl_X1_3 : Cond.methodLink RX1 3 objectInit ∈ zG := zG_in 29 (by decide +kernel) rfl
theorem kf_X1_9 : zF RX1 9 1 0 := ⟨RX1, TX1, 4, tyX1, rfl, rfl, by decide, zu_1, zG_in 30 (by decide +kernel) rfl, rfl, tyX1_ok, nmX1, fun h => absurd h (by decide), fun _ => ⟨rfl, fun a => ⟨rfl, rfl⟩⟩⟩
theorem kf_X1_15 : zF RX1 15 1 1 := ⟨RX1, TX1, 4, tyX1, rfl, rfl, by decide, zu_1, zG_in 32 (by decide +kernel) rfl, rfl, tyX1_ok, nmX1, fun h => absurd h (by decide), fun _ => ⟨rfl, fun a => ⟨rfl, rfl⟩⟩⟩
theorem kf_X1_18 : zF RX1 18 1 2 := ⟨RX1, TX1, 4, tyX1, rfl, rfl, by decide, zu_1, zG_in 34 (by decide +kernel) rfl, rfl, tyX1_ok, nmX1, fun h => absurd h (by decide), fun _ => ⟨rfl, fun a => ⟨rfl, rfl⟩⟩⟩
theorem kf_X1_21 : zF RX1 21 1 3 := ⟨RX1, TX1, 4, tyX1, rfl, rfl, by decide, zu_1, zG_in 36 (by decide +kernel) rfl, rfl, tyX1_ok, nmX1, fun h => absurd h (by decide), fun _ => ⟨rfl, fun a => ⟨rfl, rfl⟩⟩⟩
theorem kl_X5_3 : Cond.methodLink RX5 3 objectInit ∈ zG := zG_in 53 (by decide +kernel) rfl
theorem kf_X5_9 : zF RX5 9 5 0 := ⟨RX5, TX5, 3, tyX5, rfl, rfl, by decide, zu_5, zG_in 54 (by decide +kernel) rfl, rfl, tyX5_ok, nmX5, fun h => absurd h (by decide), fun _ => ⟨rfl, fun a => ⟨rfl, rfl⟩⟩⟩
theorem kf_X5_15 : zF RX5 15 5 1 := ⟨RX5, TX5, 3, tyX5, rfl, rfl, by decide, zu_5, zG_in 56 (by decide +kernel) rfl, rfl, tyX5_ok, nmX5, fun h => absurd h (by decide), fun _ => ⟨rfl, fun a => ⟨rfl, rfl⟩⟩⟩
theorem kf_X5_18 : zF RX5 18 5 2 := ⟨RX5, TX5, 3, tyX5, rfl, rfl, by decide, zu_5, zG_in 58 (by decide +kernel) rfl, rfl, tyX5_ok, nmX5, fun _ => ⟨rfl, rfl⟩, fun h => absurd h (by decide)⟩
theorem kl_X4_3 : Cond.methodLink RX4 3 objectInit ∈ zG := zG_in 72 (by decide +kernel) rfl
theorem kf_X4_9 : zF RX4 9 4 0 := ⟨RX4, TX4, 5, tyX4, rfl, rfl, by decide, zu_4, zG_in 73 (by decide +kernel) rfl, rfl, tyX4_ok, nmX4, fun h => absurd h (by decide), fun _ => ⟨rfl, fun a => ⟨rfl, rfl⟩⟩⟩
theorem kf_X4_15 : zF RX4 15 4 1 := ⟨RX4, TX4, 5, tyX4, rfl, rfl, by decide, zu_4, zG_in 75 (by decide +kernel) rfl, rfl, tyX4_ok, nmX4, fun h => absurd h (by decide), fun _ => ⟨rfl, fun a => ⟨rfl, rfl⟩⟩⟩
theorem kf_X4_18 : zF RX4 18 4 2 := ⟨RX4, TX4, 5, tyX4, rfl, rfl, by decide, zu_4, zG_in 77 (by decide +kernel) rfl, rfl, tyX4_ok, nmX4, fun h => absurd h (by decide), fun _ => ⟨rfl, fun a => ⟨rfl, rfl⟩⟩⟩
theorem kf_X4_21 : zF RX4 21 4 3 := ⟨RX4, TX4, 5, tyX4, rfl, rfl, by decide, zu_4, zG_in 79 (by decide +kernel) rfl, rfl, tyX4_ok, nmX4, fun h => absurd h (by decide), fun _ => ⟨rfl, fun a => ⟨rfl, rfl⟩⟩⟩
theorem kf_X4_24 : zF RX4 24 4 4 := ⟨RX4, TX4, 5, tyX4, rfl, rfl, by decide, zu_4, zG_in 81 (by decide +kernel) rfl, rfl, tyX4_ok, nmX4, fun _ => ⟨rfl, rfl⟩, fun h => absurd h (by decide)⟩
theorem kl_X6_3 : Cond.methodLink RX6 3 objectInit ∈ zG := zG_in 99 (by decide +kernel) rfl
theorem kf_X6_9 : zF RX6 9 6 0 := ⟨RX6, TX6, 3, tyX6, rfl, rfl, by decide, zu_6, zG_in 100 (by decide +kernel) rfl, rfl, tyX6_ok, nmX6, fun h => absurd h (by decide), fun _ => ⟨rfl, fun a => ⟨rfl, rfl⟩⟩⟩
theorem kf_X6_15 : zF RX6 15 6 1 := ⟨RX6, TX6, 3, tyX6, rfl, rfl, by decide, zu_6, zG_in 101 (by decide +kernel) rfl, rfl, tyX6_ok, nmX6, fun h => absurd h (by decide), fun _ => ⟨rfl, fun a => ⟨rfl, rfl⟩⟩⟩
theorem kf_X6_18 : zF RX6 18 6 2 := ⟨RX6, TX6, 3, tyX6, rfl, rfl, by decide, zu_6, zG_in 102 (by decide +kernel) rfl, rfl, tyX6_ok, nmX6, fun h => absurd h (by decide), fun _ => ⟨rfl, fun a => ⟨rfl, rfl⟩⟩⟩
theorem kl_X3_3 : Cond.methodLink RX3 3 objectInit ∈ zG := zG_in 119 (by decide +kernel) rfl
theorem kf_X3_9 : zF RX3 9 3 0 := ⟨RX3, TX3, 4, tyX3, rfl, rfl, by decide, zu_3, zG_in 120 (by decide +kernel) rfl, rfl, tyX3_ok, nmX3, fun h => absurd h (by decide), fun _ => ⟨rfl, fun a => ⟨rfl, rfl⟩⟩⟩
theorem kf_X3_15 : zF RX3 15 3 1 := ⟨RX3, TX3, 4, tyX3, rfl, rfl, by decide, zu_3, zG_in 122 (by decide +kernel) rfl, rfl, tyX3_ok, nmX3, fun h => absurd h (by decide), fun _ => ⟨rfl, fun a => ⟨rfl, rfl⟩⟩⟩
theorem kf_X3_18 : zF RX3 18 3 2 := ⟨RX3, TX3, 4, tyX3, rfl, rfl, by decide, zu_3, zG_in 124 (by decide +kernel) rfl, rfl, tyX3_ok, nmX3, fun h => absurd h (by decide), fun _ => ⟨rfl, fun a => ⟨rfl, rfl⟩⟩⟩
theorem kf_X3_21 : zF RX3 21 3 3 := ⟨RX3, TX3, 4, tyX3, rfl, rfl, by decide, zu_3, zG_in 126 (by decide +kernel) rfl, rfl, tyX3_ok, nmX3, fun _ => ⟨rfl, rfl⟩, fun h => absurd h (by decide)⟩
theorem kl_X2_3 : Cond.methodLink RX2 3 objectInit ∈ zG := zG_in 141 (by decide +kernel) rfl
theorem kf_X2_9 : zF RX2 9 2 0 := ⟨RX2, TX2, 2, tyX2, rfl, rfl, by decide, zu_2, zG_in 142 (by decide +kernel) rfl, rfl, tyX2_ok, nmX2, fun _ => ⟨rfl, rfl⟩, fun h => absurd h (by decide)⟩
theorem kf_X2_15 : zF RX2 15 2 1 := ⟨RX2, TX2, 2, tyX2, rfl, rfl, by decide, zu_2, zG_in 144 (by decide +kernel) rfl, rfl, tyX2_ok, nmX2, fun h => absurd h (by decide), fun _ => ⟨rfl, fun a => ⟨rfl, rfl⟩⟩⟩
theorem kl_X0_3 : Cond.methodLink RX0 3 objectInit ∈ zG := zG_in 155 (by decide +kernel) rfl
theorem kf_X0_9 : zF RX0 9 0 0 := ⟨RX0, TX0, 7, tyX0, rfl, rfl, by decide, zu_0, zG_in 156 (by decide +kernel) rfl, rfl, tyX0_ok, nmX0, fun _ => ⟨rfl, rfl⟩, fun h => absurd h (by decide)⟩
theorem kf_X0_15 : zF RX0 15 0 1 := ⟨RX0, TX0, 7, tyX0, rfl, rfl, by decide, zu_0, zG_in 158 (by decide +kernel) rfl, rfl, tyX0_ok, nmX0, fun h => absurd h (by decide), fun _ => ⟨rfl, fun a => ⟨rfl, rfl⟩⟩⟩
theorem kf_X0_19 : zF RX0 19 0 2 := ⟨RX0, TX0, 7, tyX0, rfl, rfl, by decide, zu_0, zG_in 160 (by decide +kernel) rfl, rfl, tyX0_ok, nmX0, fun h => absurd h (by decide), fun _ => ⟨rfl, fun a => ⟨rfl, rfl⟩⟩⟩
theorem kf_X0_22 : zF RX0 22 0 3 := ⟨RX0, TX0, 7, tyX0, rfl, rfl, by decide, zu_0, zG_in 162 (by decide +kernel) rfl, rfl, tyX0_ok, nmX0, fun h => absurd h (by decide), fun _ => ⟨rfl, fun a => ⟨rfl, rfl⟩⟩⟩
theorem kf_X0_25 : zF RX0 25 0 4 := ⟨RX0, TX0, 7, tyX0, rfl, rfl, by decide, zu_0, zG_in 164 (by decide +kernel) rfl, rfl, tyX0_ok, nmX0, fun h => absurd h (by decide), fun _ => ⟨rfl, fun a => ⟨rfl, rfl⟩⟩⟩
theorem kf_X0_28 : zF RX0 28 0 5 := ⟨RX0, TX0, 7, tyX0, rfl, rfl, by decide, zu_0, zG_in 166 (by decide +kernel) rfl, rfl, tyX0_ok, nmX0, fun h => absurd h (by decide), fun _ => ⟨rfl, fun a => ⟨rfl, rfl⟩⟩⟩
theorem kf_X0_31 : zF RX0 31 0 6 := ⟨RX0, TX0, 7, tyX0, rfl, rfl, by decide, zu_0, zG_in 168 (by decide +kernel) rfl, rfl, tyX0_ok, nmX0, fun h => absurd h (by decide), fun _ => ⟨rfl, fun a => ⟨rfl, rfl⟩⟩⟩
theorem kl_X7_62 : zLS RX7 62 yX7_needPoint := ⟨zG_in 215 (by decide +kernel) rfl, zG_in 216 (by decide +kernel) rfl⟩
theorem kl_X7_66 : zLS RX7 66 yX7_isWithin := ⟨zG_in 286 (by decide +kernel) rfl, zG_in 287 (by decide +kernel) rfl⟩
theorem kl_X7_70 : zLS RX7 70 yX7_isName := ⟨zG_in 289 (by decide +kernel) rfl, zG_in 290 (by decide +kernel) rfl⟩
theorem kl_X7_74 : zLS RX7 74 yX7_isYear := ⟨zG_in 292 (by decide +kernel) rfl, zG_in 293 (by decide +kernel) rfl⟩
theorem kf_X7_84 : zF RX7 84 4 4 := ⟨RX4, TX4, 5, tyX4, rfl, rfl, by decide, zu_4, zG_in 82 (by decide +kernel) rfl, rfl, tyX4_ok, nmX4, fun _ => ⟨rfl, rfl⟩, fun h => absurd h (by decide)⟩
theorem kf_X7_92 : zF RX7 92 1 0 := ⟨RX1, TX1, 4, tyX1, rfl, rfl, by decide, zu_1, zG_in 31 (by decide +kernel) rfl, rfl, tyX1_ok, nmX1, fun h => absurd h (by decide), fun _ => ⟨rfl, fun a => ⟨rfl, rfl⟩⟩⟩
theorem kf_X7_96 : zF RX7 96 1 1 := ⟨RX1, TX1, 4, tyX1, rfl, rfl, by decide, zu_1, zG_in 33 (by decide +kernel) rfl, rfl, tyX1_ok, nmX1, fun h => absurd h (by decide), fun _ => ⟨rfl, fun a => ⟨rfl, rfl⟩⟩⟩
theorem kf_X7_99 : zF RX7 99 1 2 := ⟨RX1, TX1, 4, tyX1, rfl, rfl, by decide, zu_1, zG_in 35 (by decide +kernel) rfl, rfl, tyX1_ok, nmX1, fun h => absurd h (by decide), fun _ => ⟨rfl, fun a => ⟨rfl, rfl⟩⟩⟩
theorem kf_X7_102 : zF RX7 102 1 3 := ⟨RX1, TX1, 4, tyX1, rfl, rfl, by decide, zu_1, zG_in 37 (by decide +kernel) rfl, rfl, tyX1_ok, nmX1, fun h => absurd h (by decide), fun _ => ⟨rfl, fun a => ⟨rfl, rfl⟩⟩⟩
theorem kf_X7_107 : zF RX7 107 5 2 := ⟨RX5, TX5, 3, tyX5, rfl, rfl, by decide, zu_5, zG_in 59 (by decide +kernel) rfl, rfl, tyX5_ok, nmX5, fun _ => ⟨rfl, rfl⟩, fun h => absurd h (by decide)⟩
theorem kf_X7_110 : zF RX7 110 5 0 := ⟨RX5, TX5, 3, tyX5, rfl, rfl, by decide, zu_5, zG_in 55 (by decide +kernel) rfl, rfl, tyX5_ok, nmX5, fun h => absurd h (by decide), fun _ => ⟨rfl, fun a => ⟨rfl, rfl⟩⟩⟩
theorem kf_X7_113 : zF RX7 113 5 1 := ⟨RX5, TX5, 3, tyX5, rfl, rfl, by decide, zu_5, zG_in 57 (by decide +kernel) rfl, rfl, tyX5_ok, nmX5, fun h => absurd h (by decide), fun _ => ⟨rfl, fun a => ⟨rfl, rfl⟩⟩⟩
theorem kf_X7_125 : zF RX7 125 4 0 := ⟨RX4, TX4, 5, tyX4, rfl, rfl, by decide, zu_4, zG_in 74 (by decide +kernel) rfl, rfl, tyX4_ok, nmX4, fun h => absurd h (by decide), fun _ => ⟨rfl, fun a => ⟨rfl, rfl⟩⟩⟩
theorem kf_X7_128 : zF RX7 128 4 1 := ⟨RX4, TX4, 5, tyX4, rfl, rfl, by decide, zu_4, zG_in 76 (by decide +kernel) rfl, rfl, tyX4_ok, nmX4, fun h => absurd h (by decide), fun _ => ⟨rfl, fun a => ⟨rfl, rfl⟩⟩⟩
theorem kf_X7_131 : zF RX7 131 4 2 := ⟨RX4, TX4, 5, tyX4, rfl, rfl, by decide, zu_4, zG_in 78 (by decide +kernel) rfl, rfl, tyX4_ok, nmX4, fun h => absurd h (by decide), fun _ => ⟨rfl, fun a => ⟨rfl, rfl⟩⟩⟩
theorem kf_X7_132 : zF RX7 132 4 3 := ⟨RX4, TX4, 5, tyX4, rfl, rfl, by decide, zu_4, zG_in 80 (by decide +kernel) rfl, rfl, tyX4_ok, nmX4, fun h => absurd h (by decide), fun _ => ⟨rfl, fun a => ⟨rfl, rfl⟩⟩⟩
theorem kl_X7_135 : zLV RX7 135 yX7_needRoomForChart := ⟨zG_in 345 (by decide +kernel) rfl, zG_in 347 (by decide +kernel) rfl, zG_sel 1 (by decide +kernel) rfl⟩
theorem kf_X7_138 : zF RX7 138 0 0 := ⟨RX0, TX0, 7, tyX0, rfl, rfl, by decide, zu_0, zG_in 157 (by decide +kernel) rfl, rfl, tyX0_ok, nmX0, fun _ => ⟨rfl, rfl⟩, fun h => absurd h (by decide)⟩
theorem kl_X7_140 : zLV RX7 140 yX0_forget := ⟨zG_in 350 (by decide +kernel) rfl, zG_in 351 (by decide +kernel) rfl, zG_in 352 (by decide +kernel) rfl⟩
theorem kf_X7_143 : zF RX7 143 0 3 := ⟨RX0, TX0, 7, tyX0, rfl, rfl, by decide, zu_0, zG_in 163 (by decide +kernel) rfl, rfl, tyX0_ok, nmX0, fun h => absurd h (by decide), fun _ => ⟨rfl, fun a => ⟨rfl, rfl⟩⟩⟩
theorem kf_X7_144 : zF RX7 144 0 5 := ⟨RX0, TX0, 7, tyX0, rfl, rfl, by decide, zu_0, zG_in 167 (by decide +kernel) rfl, rfl, tyX0_ok, nmX0, fun h => absurd h (by decide), fun _ => ⟨rfl, fun a => ⟨rfl, rfl⟩⟩⟩
theorem kl_X7_147 : zLV RX7 147 yX0_put := ⟨zG_in 359 (by decide +kernel) rfl, zG_in 356 (by decide +kernel) rfl, zG_in 357 (by decide +kernel) rfl⟩
theorem kl_X7_151 : zLV RX7 151 yX7_layOut := ⟨zG_in 360 (by decide +kernel) rfl, zG_in 362 (by decide +kernel) rfl, zG_sel 2 (by decide +kernel) rfl⟩
theorem kc_X0_35 : Jvm.Cond.constant RX0 35 (100000) ∈ zG := zG_in 354 (by decide +kernel) rfl
theorem kl_X0_36 : zLV RX0 36 yX0_put := ⟨zG_in 355 (by decide +kernel) rfl, zG_in 356 (by decide +kernel) rfl, zG_in 357 (by decide +kernel) rfl⟩
theorem kl_X7_311 : zLV RX7 311 yX7_gather := ⟨zG_in 364 (by decide +kernel) rfl, zG_in 366 (by decide +kernel) rfl, zG_sel 3 (by decide +kernel) rfl⟩
theorem kl_X7_314 : zLV RX7 314 yX6_settle := ⟨zG_in 380 (by decide +kernel) rfl, zG_in 381 (by decide +kernel) rfl, zG_in 382 (by decide +kernel) rfl⟩
theorem kl_X7_318 : zLV RX7 318 yX6_begin := ⟨zG_in 368 (by decide +kernel) rfl, zG_in 369 (by decide +kernel) rfl, zG_in 370 (by decide +kernel) rfl⟩
theorem kl_X7_179 : zLV RX7 179 yX0_knows := ⟨zG_in 372 (by decide +kernel) rfl, zG_in 373 (by decide +kernel) rfl, zG_in 374 (by decide +kernel) rfl⟩
theorem kf_X7_182 : zF RX7 182 0 1 := ⟨RX0, TX0, 7, tyX0, rfl, rfl, by decide, zu_0, zG_in 159 (by decide +kernel) rfl, rfl, tyX0_ok, nmX0, fun h => absurd h (by decide), fun _ => ⟨rfl, fun a => ⟨rfl, rfl⟩⟩⟩
theorem kf_X7_187 : zF RX7 187 0 2 := ⟨RX0, TX0, 7, tyX0, rfl, rfl, by decide, zu_0, zG_in 161 (by decide +kernel) rfl, rfl, tyX0_ok, nmX0, fun h => absurd h (by decide), fun _ => ⟨rfl, fun a => ⟨rfl, rfl⟩⟩⟩
theorem kl_X7_321 : zLV RX7 321 yX6_give := ⟨zG_in 376 (by decide +kernel) rfl, zG_in 377 (by decide +kernel) rfl, zG_in 378 (by decide +kernel) rfl⟩
theorem kl_X6_21 : zLV RX6 21 yX0_put := ⟨zG_in 384 (by decide +kernel) rfl, zG_in 356 (by decide +kernel) rfl, zG_in 357 (by decide +kernel) rfl⟩
