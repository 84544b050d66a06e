/-! the constructors (printed by wip/whole/gen_o.py) -/
set_option maxRecDepth 100000 in
set_option maxHeartbeats 4000000 in
theorem ct_X5_init {E : Nat × (Nat → Int32)} {μ : zMu} {ρ : zRh}  (hz : zfr μ ρ (7)) : zCt E kX5_init [.ref (7)] (zc μ ρ (7)) (.inl none, zc (zu μ (7) 2 (nI 0)) (zur (zur ρ (7) 0 (8)) (7) 1 (9)) (9)) := by
  refine zCt_of ko_X5_init (Nat.le_of_ble_eq_true rfl) (zas_r zas_0) ⟨by show 7 ≤ 9; omega, fun _ => rfl⟩ (by show 0 < 7; omega) ?_
  show zV false E kX5_init (7) _ 0 [.ref (7)] [] (zc μ ρ (7)) 0 0
  refine z_aload_n rfl rfl dX5_init_0 ?_
  refine z_objInit kl_X5_3 kob_i kob_c (by decide) (by decide) dX5_init_1 ?_
  refine z_aload_n rfl rfl dX5_init_4 ?_
  refine z_bipush (nI 6) (by decide) dX5_init_5 ?_
  refine n_newarr (t := 1) (N := 6) (m := 8) (Or.inl ⟨rfl, rfl⟩) ka_int (nI_pos (by decide)) (nI_clamp (by decide)) (by decide) (by omega) rfl hz (by decide) (by decide) dX5_init_7 ?_
  have z1 := zfr_n hz (m := 8) (by omega)
  refine n_putR kf_X5_9 (zc_at rfl (by omega) (by omega)) rfl (by omega) rfl (fun C T N h => by cases h; rfl) dX5_init_9 ?_
  have z2 := zfr_r (k := 7) (j := 0) (v := 8) z1 (by omega)
  refine z_aload_n rfl rfl dX5_init_12 ?_
  refine z_bipush (nI 6) (by decide) dX5_init_13 ?_
  refine n_newarr (t := 1) (N := 6) (m := 9) (Or.inl ⟨rfl, rfl⟩) ka_int (nI_pos (by decide)) (nI_clamp (by decide)) (by decide) (by omega) rfl z2 (by decide) (by decide) dX5_init_15 ?_
  have z3 := zfr_n z2 (m := 9) (by omega)
  refine n_putR kf_X5_15 (zc_at rfl (by omega) (by omega)) rfl (by omega) rfl (fun C T N h => by cases h; rfl) dX5_init_17 ?_
  have z4 := zfr_r (k := 7) (j := 1) (v := 9) z3 (by omega)
  refine z_aload_n rfl rfl dX5_init_20 ?_
  refine z_iconst (nI 0) (by decide) dX5_init_21 ?_
  refine n_putI kf_X5_18 (zc_at rfl (by omega) (by omega)) rfl dX5_init_22 ?_
  have z5 := zfr_i (k := 7) (j := 2) (x := nI 0) z4 (by omega)
  exact z_vret (rfl) rfl (by decide) (by decide) dX5_init_25
set_option maxRecDepth 100000 in
set_option maxHeartbeats 4000000 in
theorem ct_X4_init {E : Nat × (Nat → Int32)} {μ : zMu} {ρ : zRh}  (hz : zfr μ ρ (10)) : zCt E kX4_init [.ref (10)] (zc μ ρ (10)) (.inl none, zc (zu μ (10) 4 (nI 0)) (zur (zur (zur (zur ρ (10) 0 (11)) (10) 1 (12)) (10) 2 (13)) (10) 3 (14)) (14)) := by
  refine zCt_of ko_X4_init (Nat.le_of_ble_eq_true rfl) (zas_r zas_0) ⟨by show 10 ≤ 14; omega, fun _ => rfl⟩ (by show 0 < 10; omega) ?_
  show zV false E kX4_init (10) _ 0 [.ref (10)] [] (zc μ ρ (10)) 0 0
  refine z_aload_n rfl rfl dX4_init_0 ?_
  refine z_objInit kl_X4_3 kob_i kob_c (by decide) (by decide) dX4_init_1 ?_
  refine z_aload_n rfl rfl dX4_init_4 ?_
  refine z_bipush (nI 60) (by decide) dX4_init_5 ?_
  refine n_newarr (t := 1) (N := 60) (m := 11) (Or.inl ⟨rfl, rfl⟩) ka_int (nI_pos (by decide)) (nI_clamp (by decide)) (by decide) (by omega) rfl hz (by decide) (by decide) dX4_init_7 ?_
  have z1 := zfr_n hz (m := 11) (by omega)
  refine n_putR kf_X4_9 (zc_at rfl (by omega) (by omega)) rfl (by omega) rfl (fun C T N h => by cases h; rfl) dX4_init_9 ?_
  have z2 := zfr_r (k := 10) (j := 0) (v := 11) z1 (by omega)
  refine z_aload_n rfl rfl dX4_init_12 ?_
  refine z_bipush (nI 60) (by decide) dX4_init_13 ?_
  refine n_newarr (t := 1) (N := 60) (m := 12) (Or.inl ⟨rfl, rfl⟩) ka_int (nI_pos (by decide)) (nI_clamp (by decide)) (by decide) (by omega) rfl z2 (by decide) (by decide) dX4_init_15 ?_
  have z3 := zfr_n z2 (m := 12) (by omega)
  refine n_putR kf_X4_15 (zc_at rfl (by omega) (by omega)) rfl (by omega) rfl (fun C T N h => by cases h; rfl) dX4_init_17 ?_
  have z4 := zfr_r (k := 10) (j := 1) (v := 12) z3 (by omega)
  refine z_aload_n rfl rfl dX4_init_20 ?_
  refine z_bipush (nI 60) (by decide) dX4_init_21 ?_
  refine n_newarr (t := 1) (N := 60) (m := 13) (Or.inl ⟨rfl, rfl⟩) ka_int (nI_pos (by decide)) (nI_clamp (by decide)) (by decide) (by omega) rfl z4 (by decide) (by decide) dX4_init_23 ?_
  have z5 := zfr_n z4 (m := 13) (by omega)
  refine n_putR kf_X4_18 (zc_at rfl (by omega) (by omega)) rfl (by omega) rfl (fun C T N h => by cases h; rfl) dX4_init_25 ?_
  have z6 := zfr_r (k := 10) (j := 2) (v := 13) z5 (by omega)
  refine z_aload_n rfl rfl dX4_init_28 ?_
  refine z_bipush (nI 60) (by decide) dX4_init_29 ?_
  refine n_newarr (t := 1) (N := 60) (m := 14) (Or.inl ⟨rfl, rfl⟩) ka_int (nI_pos (by decide)) (nI_clamp (by decide)) (by decide) (by omega) rfl z6 (by decide) (by decide) dX4_init_31 ?_
  have z7 := zfr_n z6 (m := 14) (by omega)
  refine n_putR kf_X4_21 (zc_at rfl (by omega) (by omega)) rfl (by omega) rfl (fun C T N h => by cases h; rfl) dX4_init_33 ?_
  have z8 := zfr_r (k := 10) (j := 3) (v := 14) z7 (by omega)
  refine z_aload_n rfl rfl dX4_init_36 ?_
  refine z_iconst (nI 0) (by decide) dX4_init_37 ?_
  refine n_putI kf_X4_24 (zc_at rfl (by omega) (by omega)) rfl dX4_init_38 ?_
  have z9 := zfr_i (k := 10) (j := 4) (x := nI 0) z8 (by omega)
  exact z_vret (rfl) rfl (by decide) (by decide) dX4_init_41
set_option maxRecDepth 100000 in
set_option maxHeartbeats 4000000 in
theorem ct_X6_init {E : Nat × (Nat → Int32)} {μ : zMu} {ρ : zRh}  (hz : zfr μ ρ (15)) : zCt E kX6_init [.ref (15)] (zc μ ρ (15)) (.inl none, zc μ (zur (zur (zur ρ (15) 0 (16)) (15) 1 (17)) (15) 2 (18)) (18)) := by
  refine zCt_of ko_X6_init (Nat.le_of_ble_eq_true rfl) (zas_r zas_0) ⟨by show 15 ≤ 18; omega, fun _ => rfl⟩ (by show 0 < 15; omega) ?_
  show zV false E kX6_init (15) _ 0 [.ref (15)] [] (zc μ ρ (15)) 0 0
  refine z_aload_n rfl rfl dX6_init_0 ?_
  refine z_objInit kl_X6_3 kob_i kob_c (by decide) (by decide) dX6_init_1 ?_
  refine z_aload_n rfl rfl dX6_init_4 ?_
  refine z_bipush (nI 24) (by decide) dX6_init_5 ?_
  refine n_newarr (t := 1) (N := 24) (m := 16) (Or.inl ⟨rfl, rfl⟩) ka_int (nI_pos (by decide)) (nI_clamp (by decide)) (by decide) (by omega) rfl hz (by decide) (by decide) dX6_init_7 ?_
  have z1 := zfr_n hz (m := 16) (by omega)
  refine n_putR kf_X6_9 (zc_at rfl (by omega) (by omega)) rfl (by omega) rfl (fun C T N h => by cases h; rfl) dX6_init_9 ?_
  have z2 := zfr_r (k := 15) (j := 0) (v := 16) z1 (by omega)
  refine z_aload_n rfl rfl dX6_init_12 ?_
  refine z_bipush (nI 24) (by decide) dX6_init_13 ?_
  refine n_newarr (t := 1) (N := 24) (m := 17) (Or.inl ⟨rfl, rfl⟩) ka_int (nI_pos (by decide)) (nI_clamp (by decide)) (by decide) (by omega) rfl z2 (by decide) (by decide) dX6_init_15 ?_
  have z3 := zfr_n z2 (m := 17) (by omega)
  refine n_putR kf_X6_15 (zc_at rfl (by omega) (by omega)) rfl (by omega) rfl (fun C T N h => by cases h; rfl) dX6_init_17 ?_
  have z4 := zfr_r (k := 15) (j := 1) (v := 17) z3 (by omega)
  refine z_aload_n rfl rfl dX6_init_20 ?_
  refine z_bipush (nI 24) (by decide) dX6_init_21 ?_
  refine n_newarr (t := 1) (N := 24) (m := 18) (Or.inl ⟨rfl, rfl⟩) ka_int (nI_pos (by decide)) (nI_clamp (by decide)) (by decide) (by omega) rfl z4 (by decide) (by decide) dX6_init_23 ?_
  have z5 := zfr_n z4 (m := 18) (by omega)
  refine n_putR kf_X6_18 (zc_at rfl (by omega) (by omega)) rfl (by omega) rfl (fun C T N h => by cases h; rfl) dX6_init_25 ?_
  have z6 := zfr_r (k := 15) (j := 2) (v := 18) z5 (by omega)
  exact z_vret (rfl) rfl (by decide) (by decide) dX6_init_28
set_option maxRecDepth 100000 in
set_option maxHeartbeats 4000000 in
theorem ct_X3_init {E : Nat × (Nat → Int32)} {μ : zMu} {ρ : zRh}  (hz : zfr μ ρ (21)) : zCt E kX3_init [.ref (21)] (zc μ ρ (21)) (.inl none, zc (zu μ (21) 3 (nI 0)) (zur (zur (zur ρ (21) 0 (22)) (21) 1 (23)) (21) 2 (24)) (24)) := by
  refine zCt_of ko_X3_init (Nat.le_of_ble_eq_true rfl) (zas_r zas_0) ⟨by show 21 ≤ 24; omega, fun _ => rfl⟩ (by show 0 < 21; omega) ?_
  show zV false E kX3_init (21) _ 0 [.ref (21)] [] (zc μ ρ (21)) 0 0
  refine z_aload_n rfl rfl dX3_init_0 ?_
  refine z_objInit kl_X3_3 kob_i kob_c (by decide) (by decide) dX3_init_1 ?_
  refine z_aload_n rfl rfl dX3_init_4 ?_
  refine z_bipush (nI 20) (by decide) dX3_init_5 ?_
  refine n_newarr (t := 1) (N := 20) (m := 22) (Or.inl ⟨rfl, rfl⟩) ka_int (nI_pos (by decide)) (nI_clamp (by decide)) (by decide) (by omega) rfl hz (by decide) (by decide) dX3_init_7 ?_
  have z1 := zfr_n hz (m := 22) (by omega)
  refine n_putR kf_X3_9 (zc_at rfl (by omega) (by omega)) rfl (by omega) rfl (fun C T N h => by cases h; rfl) dX3_init_9 ?_
  have z2 := zfr_r (k := 21) (j := 0) (v := 22) z1 (by omega)
  refine z_aload_n rfl rfl dX3_init_12 ?_
  refine z_bipush (nI 20) (by decide) dX3_init_13 ?_
  refine n_newarr (t := 1) (N := 20) (m := 23) (Or.inl ⟨rfl, rfl⟩) ka_int (nI_pos (by decide)) (nI_clamp (by decide)) (by decide) (by omega) rfl z2 (by decide) (by decide) dX3_init_15 ?_
  have z3 := zfr_n z2 (m := 23) (by omega)
  refine n_putR kf_X3_15 (zc_at rfl (by omega) (by omega)) rfl (by omega) rfl (fun C T N h => by cases h; rfl) dX3_init_17 ?_
  have z4 := zfr_r (k := 21) (j := 1) (v := 23) z3 (by omega)
  refine z_aload_n rfl rfl dX3_init_20 ?_
  refine z_bipush (nI 20) (by decide) dX3_init_21 ?_
  refine n_newarr (t := 1) (N := 20) (m := 24) (Or.inl ⟨rfl, rfl⟩) ka_int (nI_pos (by decide)) (nI_clamp (by decide)) (by decide) (by omega) rfl z4 (by decide) (by decide) dX3_init_23 ?_
  have z5 := zfr_n z4 (m := 24) (by omega)
  refine n_putR kf_X3_18 (zc_at rfl (by omega) (by omega)) rfl (by omega) rfl (fun C T N h => by cases h; rfl) dX3_init_25 ?_
  have z6 := zfr_r (k := 21) (j := 2) (v := 24) z5 (by omega)
  refine z_aload_n rfl rfl dX3_init_28 ?_
  refine z_iconst (nI 0) (by decide) dX3_init_29 ?_
  refine n_putI kf_X3_21 (zc_at rfl (by omega) (by omega)) rfl dX3_init_30 ?_
  have z7 := zfr_i (k := 21) (j := 3) (x := nI 0) z6 (by omega)
  exact z_vret (rfl) rfl (by decide) (by decide) dX3_init_33
set_option maxRecDepth 100000 in
set_option maxHeartbeats 4000000 in
theorem ct_X0_init {E : Nat × (Nat → Int32)} {μ : zMu} {ρ : zRh} {i : Nat} (hi : i < 12) (hz : zfr μ ρ (33 + 7 * i)) : zCt E kX0_init [.ref (33 + 7 * i)] (zc μ ρ (33 + 7 * i)) (.inl none, zc (zu μ (33 + 7 * i) 0 (nI 0)) (zur (zur (zur (zur (zur (zur ρ (33 + 7 * i) 1 (34 + 7 * i)) (33 + 7 * i) 2 (35 + 7 * i)) (33 + 7 * i) 3 (36 + 7 * i)) (33 + 7 * i) 4 (37 + 7 * i)) (33 + 7 * i) 5 (38 + 7 * i)) (33 + 7 * i) 6 (39 + 7 * i)) (39 + 7 * i)) := by
  refine zCt_of ko_X0_init (Nat.le_of_ble_eq_true rfl) (zas_r zas_0) ⟨by show 33 + 7 * i ≤ 39 + 7 * i; omega, fun _ => rfl⟩ (by show 0 < 33 + 7 * i; omega) ?_
  show zV false E kX0_init (33 + 7 * i) _ 0 [.ref (33 + 7 * i)] [] (zc μ ρ (33 + 7 * i)) 0 0
  refine z_aload_n rfl rfl dX0_init_0 ?_
  refine z_objInit kl_X0_3 kob_i kob_c (by decide) (by decide) dX0_init_1 ?_
  refine z_aload_n rfl rfl dX0_init_4 ?_
  refine z_iconst (nI 0) (by decide) dX0_init_5 ?_
  refine n_putI kf_X0_9 (zc_at (zl_ch (by omega)).1 (by omega) (by omega)) rfl dX0_init_6 ?_
  have z1 := zfr_i (k := 33 + 7 * i) (j := 0) (x := nI 0) hz (by omega)
  refine z_aload_n rfl rfl dX0_init_9 ?_
  refine z_bipush (nI 24) (by decide) dX0_init_10 ?_
  refine n_newarr (t := 1) (N := 24) (m := 34 + 7 * i) (Or.inl ⟨rfl, rfl⟩) ka_int (nI_pos (by decide)) (nI_clamp (by decide)) (by decide) (by omega) ((zl_ch (by omega)).2.1) z1 (by decide) (by decide) dX0_init_12 ?_
  have z2 := zfr_n z1 (m := 34 + 7 * i) (by omega)
  refine n_putR kf_X0_15 (zc_at (zl_ch (by omega)).1 (by omega) (by omega)) rfl (by omega) rfl (fun C T N h => by cases h; rfl) dX0_init_14 ?_
  have z3 := zfr_r (k := 33 + 7 * i) (j := 1) (v := 34 + 7 * i) z2 (by omega)
  refine z_aload_n rfl rfl dX0_init_17 ?_
  refine z_bipush (nI 24) (by decide) dX0_init_18 ?_
  refine n_newarr (t := 1) (N := 24) (m := 35 + 7 * i) (Or.inl ⟨rfl, rfl⟩) ka_int (nI_pos (by decide)) (nI_clamp (by decide)) (by decide) (by omega) ((zl_ch (by omega)).2.2.1) z3 (by decide) (by decide) dX0_init_20 ?_
  have z4 := zfr_n z3 (m := 35 + 7 * i) (by omega)
  refine n_putR kf_X0_19 (zc_at (zl_ch (by omega)).1 (by omega) (by omega)) rfl (by omega) rfl (fun C T N h => by cases h; rfl) dX0_init_22 ?_
  have z5 := zfr_r (k := 33 + 7 * i) (j := 2) (v := 35 + 7 * i) z4 (by omega)
  refine z_aload_n rfl rfl dX0_init_25 ?_
  refine z_bipush (nI 24) (by decide) dX0_init_26 ?_
  refine n_newarr (t := 1) (N := 24) (m := 36 + 7 * i) (Or.inl ⟨rfl, rfl⟩) ka_int (nI_pos (by decide)) (nI_clamp (by decide)) (by decide) (by omega) ((zl_ch (by omega)).2.2.2.1) z5 (by decide) (by decide) dX0_init_28 ?_
  have z6 := zfr_n z5 (m := 36 + 7 * i) (by omega)
  refine n_putR kf_X0_22 (zc_at (zl_ch (by omega)).1 (by omega) (by omega)) rfl (by omega) rfl (fun C T N h => by cases h; rfl) dX0_init_30 ?_
  have z7 := zfr_r (k := 33 + 7 * i) (j := 3) (v := 36 + 7 * i) z6 (by omega)
  refine z_aload_n rfl rfl dX0_init_33 ?_
  refine z_bipush (nI 24) (by decide) dX0_init_34 ?_
  refine n_newarr (t := 1) (N := 24) (m := 37 + 7 * i) (Or.inl ⟨rfl, rfl⟩) ka_int (nI_pos (by decide)) (nI_clamp (by decide)) (by decide) (by omega) ((zl_ch (by omega)).2.2.2.2.1) z7 (by decide) (by decide) dX0_init_36 ?_
  have z8 := zfr_n z7 (m := 37 + 7 * i) (by omega)
  refine n_putR kf_X0_25 (zc_at (zl_ch (by omega)).1 (by omega) (by omega)) rfl (by omega) rfl (fun C T N h => by cases h; rfl) dX0_init_38 ?_
  have z9 := zfr_r (k := 33 + 7 * i) (j := 4) (v := 37 + 7 * i) z8 (by omega)
  refine z_aload_n rfl rfl dX0_init_41 ?_
  refine z_iconst (nI 3) (by decide) dX0_init_42 ?_
  refine n_newarr (t := 1) (N := 3) (m := 38 + 7 * i) (Or.inl ⟨rfl, rfl⟩) ka_int (nI_pos (by decide)) (nI_clamp (by decide)) (by decide) (by omega) ((zl_ch (by omega)).2.2.2.2.2.1) z9 (by decide) (by decide) dX0_init_43 ?_
  have z10 := zfr_n z9 (m := 38 + 7 * i) (by omega)
  refine n_putR kf_X0_28 (zc_at (zl_ch (by omega)).1 (by omega) (by omega)) rfl (by omega) rfl (fun C T N h => by cases h; rfl) dX0_init_45 ?_
  have z11 := zfr_r (k := 33 + 7 * i) (j := 5) (v := 38 + 7 * i) z10 (by omega)
  refine z_aload_n rfl rfl dX0_init_48 ?_
  refine z_bipush (nI 20) (by decide) dX0_init_49 ?_
  refine n_newarr (t := 2) (N := 20) (m := 39 + 7 * i) (Or.inr (Or.inl ⟨rfl, rfl⟩)) ka_boolean (nI_pos (by decide)) (nI_clamp (by decide)) (by decide) (by omega) ((zl_ch (by omega)).2.2.2.2.2.2) z11 (by decide) (by decide) dX0_init_51 ?_
  have z12 := zfr_n z11 (m := 39 + 7 * i) (by omega)
  refine n_putR kf_X0_31 (zc_at (zl_ch (by omega)).1 (by omega) (by omega)) rfl (by omega) rfl (fun C T N h => by cases h; rfl) dX0_init_53 ?_
  have z13 := zfr_r (k := 33 + 7 * i) (j := 6) (v := 39 + 7 * i) z12 (by omega)
  exact z_vret (rfl) rfl (by decide) (by decide) dX0_init_56

