/-! the class's constructor, in stretches (printed by wip/whole/gen_q.py) -/
theorem zfr_w {μ : zMu} {ρ : zRh} {n m : Nat} (h : zfr μ ρ n) (hm : n ≤ m) : zfr μ ρ m := fun k hk => h k (by omega)
theorem zfr_z {f : Nat → zMu → zMu} {μ : zMu} {ρ : zRh} {n : Nat} (hf : ∀ i ν, zfr ν ρ n → zfr (f i ν) ρ n) (h : zfr μ ρ n) : ∀ q, zfr (zit f 0 q μ) ρ n
  | 0 => h
  | q + 1 => hf _ _ (zfr_z hf h q)
theorem zfi_1 {μ : zMu} {ρ : zRh} (h : zfr μ ρ 2) : zfr (zit ib1 0 24 μ) (zur (zur (zur (zur ρ 2 0 3) 2 1 4) 2 2 5) 2 3 6) 6 :=
  zfr_z (fun i ν h => zfr_i (zfr_i h (by omega)) (by omega)) (zfr_r (zfr_r (zfr_r (zfr_r (zfr_w h (by omega)) (by omega)) (by omega)) (by omega)) (by omega)) 24
theorem zfi_5 {μ : zMu} {ρ : zRh} (h : zfr μ ρ 7) : zfr (zu μ 7 2 (nI 0)) (zur (zur ρ 7 0 8) 7 1 9) 9 := zfr_i (zfr_r (zfr_r (zfr_w h (by omega)) (by omega)) (by omega)) (by omega)
theorem zfi_4 {μ : zMu} {ρ : zRh} (h : zfr μ ρ 10) : zfr (zu μ 10 4 (nI 0)) (zur (zur (zur (zur ρ 10 0 11) 10 1 12) 10 2 13) 10 3 14) 14 := zfr_i (zfr_r (zfr_r (zfr_r (zfr_r (zfr_w h (by omega)) (by omega)) (by omega)) (by omega)) (by omega)) (by omega)
theorem zfi_6 {μ : zMu} {ρ : zRh} (h : zfr μ ρ 15) : zfr μ (zur (zur (zur ρ 15 0 16) 15 1 17) 15 2 18) 18 := zfr_r (zfr_r (zfr_r (zfr_w h (by omega)) (by omega)) (by omega)) (by omega)
theorem zfi_3 {μ : zMu} {ρ : zRh} (h : zfr μ ρ 21) : zfr (zu μ 21 3 (nI 0)) (zur (zur (zur ρ 21 0 22) 21 1 23) 21 2 24) 24 := zfr_i (zfr_r (zfr_r (zfr_r (zfr_w h (by omega)) (by omega)) (by omega)) (by omega)) (by omega)
theorem zfi_2 {i : Nat} {μ : zMu} {ρ : zRh} (h : zfr μ ρ (25 + 2 * i)) : zfr (i2 i μ) (zur ρ (25 + 2 * i) 1 (26 + 2 * i)) (26 + 2 * i) :=
  zfr_z (fun j ν h => zfr_i h (by omega)) (zfr_i (zfr_r (zfr_w h (by omega)) (by omega)) (by omega)) 100
theorem zfi_0 {i : Nat} {μ : zMu} {ρ : zRh} (h : zfr μ ρ (33 + 7 * i)) : zfr (zu μ (33 + 7 * i) 0 (nI 0)) (zur (zur (zur (zur (zur (zur ρ (33 + 7 * i) 1 (34 + 7 * i)) (33 + 7 * i) 2 (35 + 7 * i)) (33 + 7 * i) 3 (36 + 7 * i)) (33 + 7 * i) 4 (37 + 7 * i)) (33 + 7 * i) 5 (38 + 7 * i)) (33 + 7 * i) 6 (39 + 7 * i)) (39 + 7 * i) :=
  zfr_i (zfr_r (zfr_r (zfr_r (zfr_r (zfr_r (zfr_r (zfr_w h (by omega)) (by omega)) (by omega)) (by omega)) (by omega)) (by omega)) (by omega)) (by omega)
set_option maxRecDepth 100000 in
set_option maxHeartbeats 4000000 in
theorem s1_X7_init {E : Nat × (Nat → Int32)} {μ : zMu} {ρ : zRh} {O : zO} (hz : zfr μ ρ (1)) (kk : zfr (zu (zu (zu (zu (zit ib1 0 24 μ) 7 2 (nI 0)) 10 4 (nI 0)) 21 3 (nI 0)) (1) 7 (nI 0)) (zur (zur (zur (zur (zur (zur (zur (zur (zur (zur (zur (zur (zur (zur (zur (zur (zur (zur (zur (zur (zur (zur (zur ρ (2) 0 (3)) (2) 1 (4)) (2) 2 (5)) (2) 3 (6)) (1) 0 (2)) (7) 0 (8)) (7) 1 (9)) (1) 1 (7)) (10) 0 (11)) (10) 1 (12)) (10) 2 (13)) (10) 3 (14)) (1) 2 (10)) (15) 0 (16)) (15) 1 (17)) (15) 2 (18)) (1) 3 (15)) (1) 4 (19)) (1) 5 (20)) (21) 0 (22)) (21) 1 (23)) (21) 2 (24)) (1) 6 (21)) (24) → zV false E kX7_init 1 O 83 [.ref (1), .int (nI 0)] [] (zc (zu (zu (zu (zu (zit ib1 0 24 μ) 7 2 (nI 0)) 10 4 (nI 0)) 21 3 (nI 0)) (1) 7 (nI 0)) (zur (zur (zur (zur (zur (zur (zur (zur (zur (zur (zur (zur (zur (zur (zur (zur (zur (zur (zur (zur (zur (zur (zur ρ (2) 0 (3)) (2) 1 (4)) (2) 2 (5)) (2) 3 (6)) (1) 0 (2)) (7) 0 (8)) (7) 1 (9)) (1) 1 (7)) (10) 0 (11)) (10) 1 (12)) (10) 2 (13)) (10) 3 (14)) (1) 2 (10)) (15) 0 (16)) (15) 1 (17)) (15) 2 (18)) (1) 3 (15)) (1) 4 (19)) (1) 5 (20)) (21) 0 (22)) (21) 1 (23)) (21) 2 (24)) (1) 6 (21)) (24)) 23 515) : zV false E kX7_init 1 O 0 [.ref (1), .null] [] (zc μ ρ (1)) 0 0 := by
  refine z_aload_n rfl rfl dX7_init_0 ?_
  refine z_objInit kl_X7_1 kob_i kob_c (by decide) (by decide) dX7_init_1 ?_
  refine z_aload_n rfl rfl dX7_init_4 ?_
  refine n_new (N := 4) (m := 2) kn_X7_7 rfl (by omega) rfl hz (by decide) (by decide) dX7_init_5 ?_
  have z1 := zfr_n hz (m := 2) (by omega)
  refine z_dup rfl dX7_init_8 ?_
  refine z_callI (as := []) (ct_X1_init z1) ko_X1_init kl_X7_9 rfl rfl (by omega) rfl ⟨by decide, by decide, by decide, by decide⟩ (Nat.le_of_ble_eq_true rfl) rfl dX7_init_9 ?_
  show zV false E kX7_init 1 _ 12 [.ref (1), .null] [.ref (2), .ref (1)] (zc (zit ib1 0 24 μ) (zur (zur (zur (zur ρ (2) 0 (3)) (2) 1 (4)) (2) 2 (5)) (2) 3 (6)) (6)) 5 100
  have z2 := zfi_1 z1
  refine n_putR kf_X7_10 (zc_at rfl (by omega) (by omega)) rfl (by omega) rfl (fun C T N h => by cases h; rfl) dX7_init_12 ?_
  have z3 := zfr_r (k := 1) (j := 0) (v := 2) z2 (by omega)
  refine z_aload_n rfl rfl dX7_init_15 ?_
  refine n_new (N := 3) (m := 7) kn_X7_16 rfl (by omega) rfl z3 (by decide) (by decide) dX7_init_16 ?_
  have z4 := zfr_n z3 (m := 7) (by omega)
  refine z_dup rfl dX7_init_19 ?_
  refine z_callIN (as := []) (ct_X5_init z4) ko_X5_init kl_X7_18 rfl rfl (by omega) rfl ⟨by decide, by decide, by decide, by decide⟩ (Nat.le_of_ble_eq_true rfl) rfl dX7_init_20 ?_
  show zV false E kX7_init 1 _ 23 [.ref (1), .null] [.ref (7), .ref (1)] (zc (zu (zit ib1 0 24 μ) 7 2 (nI 0)) (zur (zur (zur (zur (zur (zur (zur ρ (2) 0 (3)) (2) 1 (4)) (2) 2 (5)) (2) 3 (6)) (1) 0 (2)) (7) 0 (8)) (7) 1 (9)) (9)) 8 115
  have z5 := zfi_5 z4
  refine n_putR kf_X7_19 (zc_at rfl (by omega) (by omega)) rfl (by omega) rfl (fun C T N h => by cases h; rfl) dX7_init_23 ?_
  have z6 := zfr_r (k := 1) (j := 1) (v := 7) z5 (by omega)
  refine z_aload_n rfl rfl dX7_init_26 ?_
  refine n_new (N := 5) (m := 10) kn_X7_23 rfl (by omega) rfl z6 (by decide) (by decide) dX7_init_27 ?_
  have z7 := zfr_n z6 (m := 10) (by omega)
  refine z_dup rfl dX7_init_30 ?_
  refine z_callIN (as := []) (ct_X4_init z7) ko_X4_init kl_X7_25 rfl rfl (by omega) rfl ⟨by decide, by decide, by decide, by decide⟩ (Nat.le_of_ble_eq_true rfl) rfl dX7_init_31 ?_
  show zV false E kX7_init 1 _ 34 [.ref (1), .null] [.ref (10), .ref (1)] (zc (zu (zu (zit ib1 0 24 μ) 7 2 (nI 0)) 10 4 (nI 0)) (zur (zur (zur (zur (zur (zur (zur (zur (zur (zur (zur (zur ρ (2) 0 (3)) (2) 1 (4)) (2) 2 (5)) (2) 3 (6)) (1) 0 (2)) (7) 0 (8)) (7) 1 (9)) (1) 1 (7)) (10) 0 (11)) (10) 1 (12)) (10) 2 (13)) (10) 3 (14)) (14)) 13 360
  have z8 := zfi_4 z7
  refine n_putR kf_X7_26 (zc_at rfl (by omega) (by omega)) rfl (by omega) rfl (fun C T N h => by cases h; rfl) dX7_init_34 ?_
  have z9 := zfr_r (k := 1) (j := 2) (v := 10) z8 (by omega)
  refine z_aload_n rfl rfl dX7_init_37 ?_
  refine n_new (N := 3) (m := 15) kn_X7_30 rfl (by omega) rfl z9 (by decide) (by decide) dX7_init_38 ?_
  have z10 := zfr_n z9 (m := 15) (by omega)
  refine z_dup rfl dX7_init_41 ?_
  refine z_callIN (as := []) (ct_X6_init z10) ko_X6_init kl_X7_32 rfl rfl (by omega) rfl ⟨by decide, by decide, by decide, by decide⟩ (Nat.le_of_ble_eq_true rfl) rfl dX7_init_42 ?_
  show zV false E kX7_init 1 _ 45 [.ref (1), .null] [.ref (15), .ref (1)] (zc (zu (zu (zit ib1 0 24 μ) 7 2 (nI 0)) 10 4 (nI 0)) (zur (zur (zur (zur (zur (zur (zur (zur (zur (zur (zur (zur (zur (zur (zur (zur ρ (2) 0 (3)) (2) 1 (4)) (2) 2 (5)) (2) 3 (6)) (1) 0 (2)) (7) 0 (8)) (7) 1 (9)) (1) 1 (7)) (10) 0 (11)) (10) 1 (12)) (10) 2 (13)) (10) 3 (14)) (1) 2 (10)) (15) 0 (16)) (15) 1 (17)) (15) 2 (18)) (18)) 17 435
  have z11 := zfi_6 z10
  refine n_putR kf_X7_33 (zc_at rfl (by omega) (by omega)) rfl (by omega) rfl (fun C T N h => by cases h; rfl) dX7_init_45 ?_
  have z12 := zfr_r (k := 1) (j := 3) (v := 15) z11 (by omega)
  refine z_aload_n rfl rfl dX7_init_48 ?_
  refine z_iconst (nI 4) (by decide) dX7_init_49 ?_
  refine n_anewarr (t := 5) (N := 4) (m := 19) (C := RX2) (Or.inr ⟨rfl, rfl⟩) kq_X7_37 (nI_pos (by decide)) (nI_clamp (by decide)) (by decide) (by omega) rfl z12 (by decide) (by decide) dX7_init_50 ?_
  have z13 := zfr_n z12 (m := 19) (by omega)
  refine n_putR kf_X7_39 (zc_at rfl (by omega) (by omega)) rfl (by omega) rfl (fun C T N h => by cases h; rfl) dX7_init_53 ?_
  have z14 := zfr_r (k := 1) (j := 4) (v := 19) z13 (by omega)
  refine z_aload_n rfl rfl dX7_init_56 ?_
  refine z_bipush (nI 12) (by decide) dX7_init_57 ?_
  refine n_anewarr (t := 4) (N := 12) (m := 20) (C := RX0) (Or.inl ⟨rfl, rfl⟩) kq_X7_43 (nI_pos (by decide)) (nI_clamp (by decide)) (by decide) (by omega) rfl z14 (by decide) (by decide) dX7_init_59 ?_
  have z15 := zfr_n z14 (m := 20) (by omega)
  refine n_putR kf_X7_45 (zc_at rfl (by omega) (by omega)) rfl (by omega) rfl (fun C T N h => by cases h; rfl) dX7_init_62 ?_
  have z16 := zfr_r (k := 1) (j := 5) (v := 20) z15 (by omega)
  refine z_aload_n rfl rfl dX7_init_65 ?_
  refine n_new (N := 4) (m := 21) kn_X7_49 rfl (by omega) rfl z16 (by decide) (by decide) dX7_init_66 ?_
  have z17 := zfr_n z16 (m := 21) (by omega)
  refine z_dup rfl dX7_init_69 ?_
  refine z_callIN (as := []) (ct_X3_init z17) ko_X3_init kl_X7_51 rfl rfl (by omega) rfl ⟨by decide, by decide, by decide, by decide⟩ (Nat.le_of_ble_eq_true rfl) rfl dX7_init_70 ?_
  show zV false E kX7_init 1 _ 73 [.ref (1), .null] [.ref (21), .ref (1)] (zc (zu (zu (zu (zit ib1 0 24 μ) 7 2 (nI 0)) 10 4 (nI 0)) 21 3 (nI 0)) (zur (zur (zur (zur (zur (zur (zur (zur (zur (zur (zur (zur (zur (zur (zur (zur (zur (zur (zur (zur (zur (zur ρ (2) 0 (3)) (2) 1 (4)) (2) 2 (5)) (2) 3 (6)) (1) 0 (2)) (7) 0 (8)) (7) 1 (9)) (1) 1 (7)) (10) 0 (11)) (10) 1 (12)) (10) 2 (13)) (10) 3 (14)) (1) 2 (10)) (15) 0 (16)) (15) 1 (17)) (15) 2 (18)) (1) 3 (15)) (1) 4 (19)) (1) 5 (20)) (21) 0 (22)) (21) 1 (23)) (21) 2 (24)) (24)) 23 515
  have z18 := zfi_3 z17
  refine n_putR kf_X7_52 (zc_at rfl (by omega) (by omega)) rfl (by omega) rfl (fun C T N h => by cases h; rfl) dX7_init_73 ?_
  have z19 := zfr_r (k := 1) (j := 6) (v := 21) z18 (by omega)
  refine z_aload_n rfl rfl dX7_init_76 ?_
  refine z_iconst (nI 0) (by decide) dX7_init_77 ?_
  refine n_putI kf_X7_56 (zc_at rfl (by omega) (by omega)) rfl dX7_init_78 ?_
  have z20 := zfr_i (k := 1) (j := 7) (x := nI 0) z19 (by omega)
  refine z_iconst (nI 0) (by decide) dX7_init_81 ?_
  refine z_istore_n rfl (by decide) rfl dX7_init_82 ?_
  exact kk z20
set_option maxRecDepth 100000 in
set_option maxHeartbeats 4000000 in
theorem s2_0_X7_init {E : Nat × (Nat → Int32)} {μ : zMu} {ρ : zRh} {O : zO} (r4 : ρ 1 4 = 19) (hz : zfr μ ρ (24)) (kk : zfr (i2 0 μ) (zur (zur ρ (25 + 2 * 0) 1 (26 + 2 * 0)) (19) (0) (25 + 2 * 0)) (26 + 2 * 0) → zV false E kX7_init 1 O 83 [.ref (1), .int (nI 1)] [] (zc (i2 0 μ) (zur (zur ρ (25 + 2 * 0) 1 (26 + 2 * 0)) (19) (0) (25 + 2 * 0)) (26 + 2 * 0)) 25 617) : zV false E kX7_init 1 O 83 [.ref (1), .int (nI 0)] [] (zc μ ρ (24)) 23 515 := by
  refine z_iload_n rfl rfl dX7_init_83 ?_
  refine z_iconst (nI 4) (by decide) dX7_init_84 ?_
  refine z_icmp_ge 107 (by decide) dX7_init_85 (fun h => absurd h (by decide)) (fun _ => ?_)
  refine z_aload_n rfl rfl dX7_init_88 ?_
  refine n_getR (19) kf_X7_39 (zc_at rfl (by omega) (by omega)) rfl r4 (by omega) dX7_init_89 ?_
  refine z_iload_n rfl rfl dX7_init_92 ?_
  refine n_new (N := 2) (m := 25 + 2 * 0) kn_X7_37 rfl (by omega) ((zl_cy (by omega)).1) hz (by decide) (by decide) dX7_init_93 ?_
  have z1 := zfr_n hz (m := 25 + 2 * 0) (by omega)
  refine z_dup rfl dX7_init_96 ?_
  refine z_callI (as := []) (ct_X2_init (i := 0) (by omega) z1) ko_X2_init kl_X7_60 rfl rfl (by omega) rfl ⟨by decide, by decide, by decide, by decide⟩ (Nat.le_of_ble_eq_true rfl) rfl dX7_init_97 ?_
  show zV false E kX7_init 1 _ 100 [.ref (1), .int (nI 0)] [.ref (25 + 2 * 0), .int (nI 0), .ref (19)] (zc (i2 0 μ) (zur ρ (25 + 2 * 0) 1 (26 + 2 * 0)) (26 + 2 * 0)) 25 617
  have z2 := zfi_2 (i := 0) z1
  refine n_aast (0) (Or.inr ⟨rfl, rfl⟩) (zc_at rfl (by omega) (by omega)) (zc_at (zl_cy (by omega)).1 (by omega) (by omega)) rfl (by omega) (by decide) dX7_init_100 ?_
  have z3 := zfr_r (k := 19) (j := 0) (v := 25 + 2 * 0) z2 (by omega)
  refine z_iinc (nI 1) rfl (zinc _) (by decide) rfl dX7_init_101 ?_
  refine z_goto 83 (by decide) dX7_init_104 ?_
  exact kk z3
set_option maxRecDepth 100000 in
set_option maxHeartbeats 4000000 in
theorem s2_1_X7_init {E : Nat × (Nat → Int32)} {μ : zMu} {ρ : zRh} {O : zO} (r4 : ρ 1 4 = 19) (hz : zfr μ ρ (26 + 2 * 0)) (kk : zfr (i2 1 μ) (zur (zur ρ (25 + 2 * 1) 1 (26 + 2 * 1)) (19) (1) (25 + 2 * 1)) (26 + 2 * 1) → zV false E kX7_init 1 O 83 [.ref (1), .int (nI 2)] [] (zc (i2 1 μ) (zur (zur ρ (25 + 2 * 1) 1 (26 + 2 * 1)) (19) (1) (25 + 2 * 1)) (26 + 2 * 1)) 27 719) : zV false E kX7_init 1 O 83 [.ref (1), .int (nI 1)] [] (zc μ ρ (26 + 2 * 0)) 25 617 := by
  refine z_iload_n rfl rfl dX7_init_83 ?_
  refine z_iconst (nI 4) (by decide) dX7_init_84 ?_
  refine z_icmp_ge 107 (by decide) dX7_init_85 (fun h => absurd h (by decide)) (fun _ => ?_)
  refine z_aload_n rfl rfl dX7_init_88 ?_
  refine n_getR (19) kf_X7_39 (zc_at rfl (by omega) (by omega)) rfl r4 (by omega) dX7_init_89 ?_
  refine z_iload_n rfl rfl dX7_init_92 ?_
  refine n_new (N := 2) (m := 25 + 2 * 1) kn_X7_37 rfl (by omega) ((zl_cy (by omega)).1) hz (by decide) (by decide) dX7_init_93 ?_
  have z1 := zfr_n hz (m := 25 + 2 * 1) (by omega)
  refine z_dup rfl dX7_init_96 ?_
  refine z_callI (as := []) (ct_X2_init (i := 1) (by omega) z1) ko_X2_init kl_X7_60 rfl rfl (by omega) rfl ⟨by decide, by decide, by decide, by decide⟩ (Nat.le_of_ble_eq_true rfl) rfl dX7_init_97 ?_
  show zV false E kX7_init 1 _ 100 [.ref (1), .int (nI 1)] [.ref (25 + 2 * 1), .int (nI 1), .ref (19)] (zc (i2 1 μ) (zur ρ (25 + 2 * 1) 1 (26 + 2 * 1)) (26 + 2 * 1)) 27 719
  have z2 := zfi_2 (i := 1) z1
  refine n_aast (1) (Or.inr ⟨rfl, rfl⟩) (zc_at rfl (by omega) (by omega)) (zc_at (zl_cy (by omega)).1 (by omega) (by omega)) rfl (by omega) (by decide) dX7_init_100 ?_
  have z3 := zfr_r (k := 19) (j := 1) (v := 25 + 2 * 1) z2 (by omega)
  refine z_iinc (nI 2) rfl (zinc _) (by decide) rfl dX7_init_101 ?_
  refine z_goto 83 (by decide) dX7_init_104 ?_
  exact kk z3
set_option maxRecDepth 100000 in
set_option maxHeartbeats 4000000 in
theorem s2_2_X7_init {E : Nat × (Nat → Int32)} {μ : zMu} {ρ : zRh} {O : zO} (r4 : ρ 1 4 = 19) (hz : zfr μ ρ (26 + 2 * 1)) (kk : zfr (i2 2 μ) (zur (zur ρ (25 + 2 * 2) 1 (26 + 2 * 2)) (19) (2) (25 + 2 * 2)) (26 + 2 * 2) → zV false E kX7_init 1 O 83 [.ref (1), .int (nI 3)] [] (zc (i2 2 μ) (zur (zur ρ (25 + 2 * 2) 1 (26 + 2 * 2)) (19) (2) (25 + 2 * 2)) (26 + 2 * 2)) 29 821) : zV false E kX7_init 1 O 83 [.ref (1), .int (nI 2)] [] (zc μ ρ (26 + 2 * 1)) 27 719 := by
  refine z_iload_n rfl rfl dX7_init_83 ?_
  refine z_iconst (nI 4) (by decide) dX7_init_84 ?_
  refine z_icmp_ge 107 (by decide) dX7_init_85 (fun h => absurd h (by decide)) (fun _ => ?_)
  refine z_aload_n rfl rfl dX7_init_88 ?_
  refine n_getR (19) kf_X7_39 (zc_at rfl (by omega) (by omega)) rfl r4 (by omega) dX7_init_89 ?_
  refine z_iload_n rfl rfl dX7_init_92 ?_
  refine n_new (N := 2) (m := 25 + 2 * 2) kn_X7_37 rfl (by omega) ((zl_cy (by omega)).1) hz (by decide) (by decide) dX7_init_93 ?_
  have z1 := zfr_n hz (m := 25 + 2 * 2) (by omega)
  refine z_dup rfl dX7_init_96 ?_
  refine z_callI (as := []) (ct_X2_init (i := 2) (by omega) z1) ko_X2_init kl_X7_60 rfl rfl (by omega) rfl ⟨by decide, by decide, by decide, by decide⟩ (Nat.le_of_ble_eq_true rfl) rfl dX7_init_97 ?_
  show zV false E kX7_init 1 _ 100 [.ref (1), .int (nI 2)] [.ref (25 + 2 * 2), .int (nI 2), .ref (19)] (zc (i2 2 μ) (zur ρ (25 + 2 * 2) 1 (26 + 2 * 2)) (26 + 2 * 2)) 29 821
  have z2 := zfi_2 (i := 2) z1
  refine n_aast (2) (Or.inr ⟨rfl, rfl⟩) (zc_at rfl (by omega) (by omega)) (zc_at (zl_cy (by omega)).1 (by omega) (by omega)) rfl (by omega) (by decide) dX7_init_100 ?_
  have z3 := zfr_r (k := 19) (j := 2) (v := 25 + 2 * 2) z2 (by omega)
  refine z_iinc (nI 3) rfl (zinc _) (by decide) rfl dX7_init_101 ?_
  refine z_goto 83 (by decide) dX7_init_104 ?_
  exact kk z3
set_option maxRecDepth 100000 in
set_option maxHeartbeats 4000000 in
theorem s2_3_X7_init {E : Nat × (Nat → Int32)} {μ : zMu} {ρ : zRh} {O : zO} (r4 : ρ 1 4 = 19) (hz : zfr μ ρ (26 + 2 * 2)) (kk : zfr (i2 3 μ) (zur (zur ρ (25 + 2 * 3) 1 (26 + 2 * 3)) (19) (3) (25 + 2 * 3)) (26 + 2 * 3) → zV false E kX7_init 1 O 83 [.ref (1), .int (nI 4)] [] (zc (i2 3 μ) (zur (zur ρ (25 + 2 * 3) 1 (26 + 2 * 3)) (19) (3) (25 + 2 * 3)) (26 + 2 * 3)) 31 923) : zV false E kX7_init 1 O 83 [.ref (1), .int (nI 3)] [] (zc μ ρ (26 + 2 * 2)) 29 821 := by
  refine z_iload_n rfl rfl dX7_init_83 ?_
  refine z_iconst (nI 4) (by decide) dX7_init_84 ?_
  refine z_icmp_ge 107 (by decide) dX7_init_85 (fun h => absurd h (by decide)) (fun _ => ?_)
  refine z_aload_n rfl rfl dX7_init_88 ?_
  refine n_getR (19) kf_X7_39 (zc_at rfl (by omega) (by omega)) rfl r4 (by omega) dX7_init_89 ?_
  refine z_iload_n rfl rfl dX7_init_92 ?_
  refine n_new (N := 2) (m := 25 + 2 * 3) kn_X7_37 rfl (by omega) ((zl_cy (by omega)).1) hz (by decide) (by decide) dX7_init_93 ?_
  have z1 := zfr_n hz (m := 25 + 2 * 3) (by omega)
  refine z_dup rfl dX7_init_96 ?_
  refine z_callI (as := []) (ct_X2_init (i := 3) (by omega) z1) ko_X2_init kl_X7_60 rfl rfl (by omega) rfl ⟨by decide, by decide, by decide, by decide⟩ (Nat.le_of_ble_eq_true rfl) rfl dX7_init_97 ?_
  show zV false E kX7_init 1 _ 100 [.ref (1), .int (nI 3)] [.ref (25 + 2 * 3), .int (nI 3), .ref (19)] (zc (i2 3 μ) (zur ρ (25 + 2 * 3) 1 (26 + 2 * 3)) (26 + 2 * 3)) 31 923
  have z2 := zfi_2 (i := 3) z1
  refine n_aast (3) (Or.inr ⟨rfl, rfl⟩) (zc_at rfl (by omega) (by omega)) (zc_at (zl_cy (by omega)).1 (by omega) (by omega)) rfl (by omega) (by decide) dX7_init_100 ?_
  have z3 := zfr_r (k := 19) (j := 3) (v := 25 + 2 * 3) z2 (by omega)
  refine z_iinc (nI 4) rfl (zinc _) (by decide) rfl dX7_init_101 ?_
  refine z_goto 83 (by decide) dX7_init_104 ?_
  exact kk z3
set_option maxRecDepth 100000 in
set_option maxHeartbeats 4000000 in
theorem s3_0_X7_init {E : Nat × (Nat → Int32)} {μ : zMu} {ρ : zRh} {O : zO} (r5 : ρ 1 5 = 20) (hz : zfr μ ρ (26 + 2 * 3)) (kk : zfr (zu μ (33 + 7 * 0) 0 (nI 0)) (zur (zur (zur (zur (zur (zur (zur ρ (33 + 7 * 0) 1 (34 + 7 * 0)) (33 + 7 * 0) 2 (35 + 7 * 0)) (33 + 7 * 0) 3 (36 + 7 * 0)) (33 + 7 * 0) 4 (37 + 7 * 0)) (33 + 7 * 0) 5 (38 + 7 * 0)) (33 + 7 * 0) 6 (39 + 7 * 0)) (20) (0) (33 + 7 * 0)) (39 + 7 * 0) → zV false E kX7_init 1 O 109 [.ref (1), .int (nI 1)] [] (zc (zu μ (33 + 7 * 0) 0 (nI 0)) (zur (zur (zur (zur (zur (zur (zur ρ (33 + 7 * 0) 1 (34 + 7 * 0)) (33 + 7 * 0) 2 (35 + 7 * 0)) (33 + 7 * 0) 3 (36 + 7 * 0)) (33 + 7 * 0) 4 (37 + 7 * 0)) (33 + 7 * 0) 5 (38 + 7 * 0)) (33 + 7 * 0) 6 (39 + 7 * 0)) (20) (0) (33 + 7 * 0)) (39 + 7 * 0)) 38 1049) : zV false E kX7_init 1 O 109 [.ref (1), .int (nI 0)] [] (zc μ ρ (26 + 2 * 3)) 31 923 := by
  refine z_iload_n rfl rfl dX7_init_109 ?_
  refine z_bipush (nI 12) (by decide) dX7_init_110 ?_
  refine z_icmp_ge 134 (by decide) dX7_init_112 (fun h => absurd h (by decide)) (fun _ => ?_)
  refine z_aload_n rfl rfl dX7_init_115 ?_
  refine n_getR (20) kf_X7_45 (zc_at rfl (by omega) (by omega)) rfl r5 (by omega) dX7_init_116 ?_
  refine z_iload_n rfl rfl dX7_init_119 ?_
  refine n_new (N := 7) (m := 33 + 7 * 0) kn_X7_43 rfl (by omega) ((zl_ch (by omega)).1) hz (by decide) (by decide) dX7_init_120 ?_
  have z1 := zfr_n hz (m := 33 + 7 * 0) (by omega)
  refine z_dup rfl dX7_init_123 ?_
  refine z_callIN (as := []) (ct_X0_init (i := 0) (by omega) z1) ko_X0_init kl_X7_61 rfl rfl (by omega) rfl ⟨by decide, by decide, by decide, by decide⟩ (Nat.le_of_ble_eq_true rfl) rfl dX7_init_124 ?_
  show zV false E kX7_init 1 _ 127 [.ref (1), .int (nI 0)] [.ref (33 + 7 * 0), .int (nI 0), .ref (20)] (zc (zu μ (33 + 7 * 0) 0 (nI 0)) (zur (zur (zur (zur (zur (zur ρ (33 + 7 * 0) 1 (34 + 7 * 0)) (33 + 7 * 0) 2 (35 + 7 * 0)) (33 + 7 * 0) 3 (36 + 7 * 0)) (33 + 7 * 0) 4 (37 + 7 * 0)) (33 + 7 * 0) 5 (38 + 7 * 0)) (33 + 7 * 0) 6 (39 + 7 * 0)) (39 + 7 * 0)) 38 1049
  have z2 := zfi_0 (i := 0) z1
  refine n_aast (0) (Or.inl ⟨rfl, rfl⟩) (zc_at rfl (by omega) (by omega)) (zc_at (zl_ch (by omega)).1 (by omega) (by omega)) rfl (by omega) (by decide) dX7_init_127 ?_
  have z3 := zfr_r (k := 20) (j := 0) (v := 33 + 7 * 0) z2 (by omega)
  refine z_iinc (nI 1) rfl (zinc _) (by decide) rfl dX7_init_128 ?_
  refine z_goto 109 (by decide) dX7_init_131 ?_
  exact kk z3
set_option maxRecDepth 100000 in
set_option maxHeartbeats 4000000 in
theorem s3_1_X7_init {E : Nat × (Nat → Int32)} {μ : zMu} {ρ : zRh} {O : zO} (r5 : ρ 1 5 = 20) (hz : zfr μ ρ (39 + 7 * 0)) (kk : zfr (zu μ (33 + 7 * 1) 0 (nI 0)) (zur (zur (zur (zur (zur (zur (zur ρ (33 + 7 * 1) 1 (34 + 7 * 1)) (33 + 7 * 1) 2 (35 + 7 * 1)) (33 + 7 * 1) 3 (36 + 7 * 1)) (33 + 7 * 1) 4 (37 + 7 * 1)) (33 + 7 * 1) 5 (38 + 7 * 1)) (33 + 7 * 1) 6 (39 + 7 * 1)) (20) (1) (33 + 7 * 1)) (39 + 7 * 1) → zV false E kX7_init 1 O 109 [.ref (1), .int (nI 2)] [] (zc (zu μ (33 + 7 * 1) 0 (nI 0)) (zur (zur (zur (zur (zur (zur (zur ρ (33 + 7 * 1) 1 (34 + 7 * 1)) (33 + 7 * 1) 2 (35 + 7 * 1)) (33 + 7 * 1) 3 (36 + 7 * 1)) (33 + 7 * 1) 4 (37 + 7 * 1)) (33 + 7 * 1) 5 (38 + 7 * 1)) (33 + 7 * 1) 6 (39 + 7 * 1)) (20) (1) (33 + 7 * 1)) (39 + 7 * 1)) 45 1175) : zV false E kX7_init 1 O 109 [.ref (1), .int (nI 1)] [] (zc μ ρ (39 + 7 * 0)) 38 1049 := by
  refine z_iload_n rfl rfl dX7_init_109 ?_
  refine z_bipush (nI 12) (by decide) dX7_init_110 ?_
  refine z_icmp_ge 134 (by decide) dX7_init_112 (fun h => absurd h (by decide)) (fun _ => ?_)
  refine z_aload_n rfl rfl dX7_init_115 ?_
  refine n_getR (20) kf_X7_45 (zc_at rfl (by omega) (by omega)) rfl r5 (by omega) dX7_init_116 ?_
  refine z_iload_n rfl rfl dX7_init_119 ?_
  refine n_new (N := 7) (m := 33 + 7 * 1) kn_X7_43 rfl (by omega) ((zl_ch (by omega)).1) hz (by decide) (by decide) dX7_init_120 ?_
  have z1 := zfr_n hz (m := 33 + 7 * 1) (by omega)
  refine z_dup rfl dX7_init_123 ?_
  refine z_callIN (as := []) (ct_X0_init (i := 1) (by omega) z1) ko_X0_init kl_X7_61 rfl rfl (by omega) rfl ⟨by decide, by decide, by decide, by decide⟩ (Nat.le_of_ble_eq_true rfl) rfl dX7_init_124 ?_
  show zV false E kX7_init 1 _ 127 [.ref (1), .int (nI 1)] [.ref (33 + 7 * 1), .int (nI 1), .ref (20)] (zc (zu μ (33 + 7 * 1) 0 (nI 0)) (zur (zur (zur (zur (zur (zur ρ (33 + 7 * 1) 1 (34 + 7 * 1)) (33 + 7 * 1) 2 (35 + 7 * 1)) (33 + 7 * 1) 3 (36 + 7 * 1)) (33 + 7 * 1) 4 (37 + 7 * 1)) (33 + 7 * 1) 5 (38 + 7 * 1)) (33 + 7 * 1) 6 (39 + 7 * 1)) (39 + 7 * 1)) 45 1175
  have z2 := zfi_0 (i := 1) z1
  refine n_aast (1) (Or.inl ⟨rfl, rfl⟩) (zc_at rfl (by omega) (by omega)) (zc_at (zl_ch (by omega)).1 (by omega) (by omega)) rfl (by omega) (by decide) dX7_init_127 ?_
  have z3 := zfr_r (k := 20) (j := 1) (v := 33 + 7 * 1) z2 (by omega)
  refine z_iinc (nI 2) rfl (zinc _) (by decide) rfl dX7_init_128 ?_
  refine z_goto 109 (by decide) dX7_init_131 ?_
  exact kk z3
set_option maxRecDepth 100000 in
set_option maxHeartbeats 4000000 in
theorem s3_2_X7_init {E : Nat × (Nat → Int32)} {μ : zMu} {ρ : zRh} {O : zO} (r5 : ρ 1 5 = 20) (hz : zfr μ ρ (39 + 7 * 1)) (kk : zfr (zu μ (33 + 7 * 2) 0 (nI 0)) (zur (zur (zur (zur (zur (zur (zur ρ (33 + 7 * 2) 1 (34 + 7 * 2)) (33 + 7 * 2) 2 (35 + 7 * 2)) (33 + 7 * 2) 3 (36 + 7 * 2)) (33 + 7 * 2) 4 (37 + 7 * 2)) (33 + 7 * 2) 5 (38 + 7 * 2)) (33 + 7 * 2) 6 (39 + 7 * 2)) (20) (2) (33 + 7 * 2)) (39 + 7 * 2) → zV false E kX7_init 1 O 109 [.ref (1), .int (nI 3)] [] (zc (zu μ (33 + 7 * 2) 0 (nI 0)) (zur (zur (zur (zur (zur (zur (zur ρ (33 + 7 * 2) 1 (34 + 7 * 2)) (33 + 7 * 2) 2 (35 + 7 * 2)) (33 + 7 * 2) 3 (36 + 7 * 2)) (33 + 7 * 2) 4 (37 + 7 * 2)) (33 + 7 * 2) 5 (38 + 7 * 2)) (33 + 7 * 2) 6 (39 + 7 * 2)) (20) (2) (33 + 7 * 2)) (39 + 7 * 2)) 52 1301) : zV false E kX7_init 1 O 109 [.ref (1), .int (nI 2)] [] (zc μ ρ (39 + 7 * 1)) 45 1175 := by
  refine z_iload_n rfl rfl dX7_init_109 ?_
  refine z_bipush (nI 12) (by decide) dX7_init_110 ?_
  refine z_icmp_ge 134 (by decide) dX7_init_112 (fun h => absurd h (by decide)) (fun _ => ?_)
  refine z_aload_n rfl rfl dX7_init_115 ?_
  refine n_getR (20) kf_X7_45 (zc_at rfl (by omega) (by omega)) rfl r5 (by omega) dX7_init_116 ?_
  refine z_iload_n rfl rfl dX7_init_119 ?_
  refine n_new (N := 7) (m := 33 + 7 * 2) kn_X7_43 rfl (by omega) ((zl_ch (by omega)).1) hz (by decide) (by decide) dX7_init_120 ?_
  have z1 := zfr_n hz (m := 33 + 7 * 2) (by omega)
  refine z_dup rfl dX7_init_123 ?_
  refine z_callIN (as := []) (ct_X0_init (i := 2) (by omega) z1) ko_X0_init kl_X7_61 rfl rfl (by omega) rfl ⟨by decide, by decide, by decide, by decide⟩ (Nat.le_of_ble_eq_true rfl) rfl dX7_init_124 ?_
  show zV false E kX7_init 1 _ 127 [.ref (1), .int (nI 2)] [.ref (33 + 7 * 2), .int (nI 2), .ref (20)] (zc (zu μ (33 + 7 * 2) 0 (nI 0)) (zur (zur (zur (zur (zur (zur ρ (33 + 7 * 2) 1 (34 + 7 * 2)) (33 + 7 * 2) 2 (35 + 7 * 2)) (33 + 7 * 2) 3 (36 + 7 * 2)) (33 + 7 * 2) 4 (37 + 7 * 2)) (33 + 7 * 2) 5 (38 + 7 * 2)) (33 + 7 * 2) 6 (39 + 7 * 2)) (39 + 7 * 2)) 52 1301
  have z2 := zfi_0 (i := 2) z1
  refine n_aast (2) (Or.inl ⟨rfl, rfl⟩) (zc_at rfl (by omega) (by omega)) (zc_at (zl_ch (by omega)).1 (by omega) (by omega)) rfl (by omega) (by decide) dX7_init_127 ?_
  have z3 := zfr_r (k := 20) (j := 2) (v := 33 + 7 * 2) z2 (by omega)
  refine z_iinc (nI 3) rfl (zinc _) (by decide) rfl dX7_init_128 ?_
  refine z_goto 109 (by decide) dX7_init_131 ?_
  exact kk z3
set_option maxRecDepth 100000 in
set_option maxHeartbeats 4000000 in
theorem s3_3_X7_init {E : Nat × (Nat → Int32)} {μ : zMu} {ρ : zRh} {O : zO} (r5 : ρ 1 5 = 20) (hz : zfr μ ρ (39 + 7 * 2)) (kk : zfr (zu μ (33 + 7 * 3) 0 (nI 0)) (zur (zur (zur (zur (zur (zur (zur ρ (33 + 7 * 3) 1 (34 + 7 * 3)) (33 + 7 * 3) 2 (35 + 7 * 3)) (33 + 7 * 3) 3 (36 + 7 * 3)) (33 + 7 * 3) 4 (37 + 7 * 3)) (33 + 7 * 3) 5 (38 + 7 * 3)) (33 + 7 * 3) 6 (39 + 7 * 3)) (20) (3) (33 + 7 * 3)) (39 + 7 * 3) → zV false E kX7_init 1 O 109 [.ref (1), .int (nI 4)] [] (zc (zu μ (33 + 7 * 3) 0 (nI 0)) (zur (zur (zur (zur (zur (zur (zur ρ (33 + 7 * 3) 1 (34 + 7 * 3)) (33 + 7 * 3) 2 (35 + 7 * 3)) (33 + 7 * 3) 3 (36 + 7 * 3)) (33 + 7 * 3) 4 (37 + 7 * 3)) (33 + 7 * 3) 5 (38 + 7 * 3)) (33 + 7 * 3) 6 (39 + 7 * 3)) (20) (3) (33 + 7 * 3)) (39 + 7 * 3)) 59 1427) : zV false E kX7_init 1 O 109 [.ref (1), .int (nI 3)] [] (zc μ ρ (39 + 7 * 2)) 52 1301 := by
  refine z_iload_n rfl rfl dX7_init_109 ?_
  refine z_bipush (nI 12) (by decide) dX7_init_110 ?_
  refine z_icmp_ge 134 (by decide) dX7_init_112 (fun h => absurd h (by decide)) (fun _ => ?_)
  refine z_aload_n rfl rfl dX7_init_115 ?_
  refine n_getR (20) kf_X7_45 (zc_at rfl (by omega) (by omega)) rfl r5 (by omega) dX7_init_116 ?_
  refine z_iload_n rfl rfl dX7_init_119 ?_
  refine n_new (N := 7) (m := 33 + 7 * 3) kn_X7_43 rfl (by omega) ((zl_ch (by omega)).1) hz (by decide) (by decide) dX7_init_120 ?_
  have z1 := zfr_n hz (m := 33 + 7 * 3) (by omega)
  refine z_dup rfl dX7_init_123 ?_
  refine z_callIN (as := []) (ct_X0_init (i := 3) (by omega) z1) ko_X0_init kl_X7_61 rfl rfl (by omega) rfl ⟨by decide, by decide, by decide, by decide⟩ (Nat.le_of_ble_eq_true rfl) rfl dX7_init_124 ?_
  show zV false E kX7_init 1 _ 127 [.ref (1), .int (nI 3)] [.ref (33 + 7 * 3), .int (nI 3), .ref (20)] (zc (zu μ (33 + 7 * 3) 0 (nI 0)) (zur (zur (zur (zur (zur (zur ρ (33 + 7 * 3) 1 (34 + 7 * 3)) (33 + 7 * 3) 2 (35 + 7 * 3)) (33 + 7 * 3) 3 (36 + 7 * 3)) (33 + 7 * 3) 4 (37 + 7 * 3)) (33 + 7 * 3) 5 (38 + 7 * 3)) (33 + 7 * 3) 6 (39 + 7 * 3)) (39 + 7 * 3)) 59 1427
  have z2 := zfi_0 (i := 3) z1
  refine n_aast (3) (Or.inl ⟨rfl, rfl⟩) (zc_at rfl (by omega) (by omega)) (zc_at (zl_ch (by omega)).1 (by omega) (by omega)) rfl (by omega) (by decide) dX7_init_127 ?_
  have z3 := zfr_r (k := 20) (j := 3) (v := 33 + 7 * 3) z2 (by omega)
  refine z_iinc (nI 4) rfl (zinc _) (by decide) rfl dX7_init_128 ?_
  refine z_goto 109 (by decide) dX7_init_131 ?_
  exact kk z3
set_option maxRecDepth 100000 in
set_option maxHeartbeats 4000000 in
theorem s3_4_X7_init {E : Nat × (Nat → Int32)} {μ : zMu} {ρ : zRh} {O : zO} (r5 : ρ 1 5 = 20) (hz : zfr μ ρ (39 + 7 * 3)) (kk : zfr (zu μ (33 + 7 * 4) 0 (nI 0)) (zur (zur (zur (zur (zur (zur (zur ρ (33 + 7 * 4) 1 (34 + 7 * 4)) (33 + 7 * 4) 2 (35 + 7 * 4)) (33 + 7 * 4) 3 (36 + 7 * 4)) (33 + 7 * 4) 4 (37 + 7 * 4)) (33 + 7 * 4) 5 (38 + 7 * 4)) (33 + 7 * 4) 6 (39 + 7 * 4)) (20) (4) (33 + 7 * 4)) (39 + 7 * 4) → zV false E kX7_init 1 O 109 [.ref (1), .int (nI 5)] [] (zc (zu μ (33 + 7 * 4) 0 (nI 0)) (zur (zur (zur (zur (zur (zur (zur ρ (33 + 7 * 4) 1 (34 + 7 * 4)) (33 + 7 * 4) 2 (35 + 7 * 4)) (33 + 7 * 4) 3 (36 + 7 * 4)) (33 + 7 * 4) 4 (37 + 7 * 4)) (33 + 7 * 4) 5 (38 + 7 * 4)) (33 + 7 * 4) 6 (39 + 7 * 4)) (20) (4) (33 + 7 * 4)) (39 + 7 * 4)) 66 1553) : zV false E kX7_init 1 O 109 [.ref (1), .int (nI 4)] [] (zc μ ρ (39 + 7 * 3)) 59 1427 := by
  refine z_iload_n rfl rfl dX7_init_109 ?_
  refine z_bipush (nI 12) (by decide) dX7_init_110 ?_
  refine z_icmp_ge 134 (by decide) dX7_init_112 (fun h => absurd h (by decide)) (fun _ => ?_)
  refine z_aload_n rfl rfl dX7_init_115 ?_
  refine n_getR (20) kf_X7_45 (zc_at rfl (by omega) (by omega)) rfl r5 (by omega) dX7_init_116 ?_
  refine z_iload_n rfl rfl dX7_init_119 ?_
  refine n_new (N := 7) (m := 33 + 7 * 4) kn_X7_43 rfl (by omega) ((zl_ch (by omega)).1) hz (by decide) (by decide) dX7_init_120 ?_
  have z1 := zfr_n hz (m := 33 + 7 * 4) (by omega)
  refine z_dup rfl dX7_init_123 ?_
  refine z_callIN (as := []) (ct_X0_init (i := 4) (by omega) z1) ko_X0_init kl_X7_61 rfl rfl (by omega) rfl ⟨by decide, by decide, by decide, by decide⟩ (Nat.le_of_ble_eq_true rfl) rfl dX7_init_124 ?_
  show zV false E kX7_init 1 _ 127 [.ref (1), .int (nI 4)] [.ref (33 + 7 * 4), .int (nI 4), .ref (20)] (zc (zu μ (33 + 7 * 4) 0 (nI 0)) (zur (zur (zur (zur (zur (zur ρ (33 + 7 * 4) 1 (34 + 7 * 4)) (33 + 7 * 4) 2 (35 + 7 * 4)) (33 + 7 * 4) 3 (36 + 7 * 4)) (33 + 7 * 4) 4 (37 + 7 * 4)) (33 + 7 * 4) 5 (38 + 7 * 4)) (33 + 7 * 4) 6 (39 + 7 * 4)) (39 + 7 * 4)) 66 1553
  have z2 := zfi_0 (i := 4) z1
  refine n_aast (4) (Or.inl ⟨rfl, rfl⟩) (zc_at rfl (by omega) (by omega)) (zc_at (zl_ch (by omega)).1 (by omega) (by omega)) rfl (by omega) (by decide) dX7_init_127 ?_
  have z3 := zfr_r (k := 20) (j := 4) (v := 33 + 7 * 4) z2 (by omega)
  refine z_iinc (nI 5) rfl (zinc _) (by decide) rfl dX7_init_128 ?_
  refine z_goto 109 (by decide) dX7_init_131 ?_
  exact kk z3
set_option maxRecDepth 100000 in
set_option maxHeartbeats 4000000 in
theorem s3_5_X7_init {E : Nat × (Nat → Int32)} {μ : zMu} {ρ : zRh} {O : zO} (r5 : ρ 1 5 = 20) (hz : zfr μ ρ (39 + 7 * 4)) (kk : zfr (zu μ (33 + 7 * 5) 0 (nI 0)) (zur (zur (zur (zur (zur (zur (zur ρ (33 + 7 * 5) 1 (34 + 7 * 5)) (33 + 7 * 5) 2 (35 + 7 * 5)) (33 + 7 * 5) 3 (36 + 7 * 5)) (33 + 7 * 5) 4 (37 + 7 * 5)) (33 + 7 * 5) 5 (38 + 7 * 5)) (33 + 7 * 5) 6 (39 + 7 * 5)) (20) (5) (33 + 7 * 5)) (39 + 7 * 5) → zV false E kX7_init 1 O 109 [.ref (1), .int (nI 6)] [] (zc (zu μ (33 + 7 * 5) 0 (nI 0)) (zur (zur (zur (zur (zur (zur (zur ρ (33 + 7 * 5) 1 (34 + 7 * 5)) (33 + 7 * 5) 2 (35 + 7 * 5)) (33 + 7 * 5) 3 (36 + 7 * 5)) (33 + 7 * 5) 4 (37 + 7 * 5)) (33 + 7 * 5) 5 (38 + 7 * 5)) (33 + 7 * 5) 6 (39 + 7 * 5)) (20) (5) (33 + 7 * 5)) (39 + 7 * 5)) 73 1679) : zV false E kX7_init 1 O 109 [.ref (1), .int (nI 5)] [] (zc μ ρ (39 + 7 * 4)) 66 1553 := by
  refine z_iload_n rfl rfl dX7_init_109 ?_
  refine z_bipush (nI 12) (by decide) dX7_init_110 ?_
  refine z_icmp_ge 134 (by decide) dX7_init_112 (fun h => absurd h (by decide)) (fun _ => ?_)
  refine z_aload_n rfl rfl dX7_init_115 ?_
  refine n_getR (20) kf_X7_45 (zc_at rfl (by omega) (by omega)) rfl r5 (by omega) dX7_init_116 ?_
  refine z_iload_n rfl rfl dX7_init_119 ?_
  refine n_new (N := 7) (m := 33 + 7 * 5) kn_X7_43 rfl (by omega) ((zl_ch (by omega)).1) hz (by decide) (by decide) dX7_init_120 ?_
  have z1 := zfr_n hz (m := 33 + 7 * 5) (by omega)
  refine z_dup rfl dX7_init_123 ?_
  refine z_callIN (as := []) (ct_X0_init (i := 5) (by omega) z1) ko_X0_init kl_X7_61 rfl rfl (by omega) rfl ⟨by decide, by decide, by decide, by decide⟩ (Nat.le_of_ble_eq_true rfl) rfl dX7_init_124 ?_
  show zV false E kX7_init 1 _ 127 [.ref (1), .int (nI 5)] [.ref (33 + 7 * 5), .int (nI 5), .ref (20)] (zc (zu μ (33 + 7 * 5) 0 (nI 0)) (zur (zur (zur (zur (zur (zur ρ (33 + 7 * 5) 1 (34 + 7 * 5)) (33 + 7 * 5) 2 (35 + 7 * 5)) (33 + 7 * 5) 3 (36 + 7 * 5)) (33 + 7 * 5) 4 (37 + 7 * 5)) (33 + 7 * 5) 5 (38 + 7 * 5)) (33 + 7 * 5) 6 (39 + 7 * 5)) (39 + 7 * 5)) 73 1679
  have z2 := zfi_0 (i := 5) z1
  refine n_aast (5) (Or.inl ⟨rfl, rfl⟩) (zc_at rfl (by omega) (by omega)) (zc_at (zl_ch (by omega)).1 (by omega) (by omega)) rfl (by omega) (by decide) dX7_init_127 ?_
  have z3 := zfr_r (k := 20) (j := 5) (v := 33 + 7 * 5) z2 (by omega)
  refine z_iinc (nI 6) rfl (zinc _) (by decide) rfl dX7_init_128 ?_
  refine z_goto 109 (by decide) dX7_init_131 ?_
  exact kk z3
set_option maxRecDepth 100000 in
set_option maxHeartbeats 4000000 in
theorem s3_6_X7_init {E : Nat × (Nat → Int32)} {μ : zMu} {ρ : zRh} {O : zO} (r5 : ρ 1 5 = 20) (hz : zfr μ ρ (39 + 7 * 5)) (kk : zfr (zu μ (33 + 7 * 6) 0 (nI 0)) (zur (zur (zur (zur (zur (zur (zur ρ (33 + 7 * 6) 1 (34 + 7 * 6)) (33 + 7 * 6) 2 (35 + 7 * 6)) (33 + 7 * 6) 3 (36 + 7 * 6)) (33 + 7 * 6) 4 (37 + 7 * 6)) (33 + 7 * 6) 5 (38 + 7 * 6)) (33 + 7 * 6) 6 (39 + 7 * 6)) (20) (6) (33 + 7 * 6)) (39 + 7 * 6) → zV false E kX7_init 1 O 109 [.ref (1), .int (nI 7)] [] (zc (zu μ (33 + 7 * 6) 0 (nI 0)) (zur (zur (zur (zur (zur (zur (zur ρ (33 + 7 * 6) 1 (34 + 7 * 6)) (33 + 7 * 6) 2 (35 + 7 * 6)) (33 + 7 * 6) 3 (36 + 7 * 6)) (33 + 7 * 6) 4 (37 + 7 * 6)) (33 + 7 * 6) 5 (38 + 7 * 6)) (33 + 7 * 6) 6 (39 + 7 * 6)) (20) (6) (33 + 7 * 6)) (39 + 7 * 6)) 80 1805) : zV false E kX7_init 1 O 109 [.ref (1), .int (nI 6)] [] (zc μ ρ (39 + 7 * 5)) 73 1679 := by
  refine z_iload_n rfl rfl dX7_init_109 ?_
  refine z_bipush (nI 12) (by decide) dX7_init_110 ?_
  refine z_icmp_ge 134 (by decide) dX7_init_112 (fun h => absurd h (by decide)) (fun _ => ?_)
  refine z_aload_n rfl rfl dX7_init_115 ?_
  refine n_getR (20) kf_X7_45 (zc_at rfl (by omega) (by omega)) rfl r5 (by omega) dX7_init_116 ?_
  refine z_iload_n rfl rfl dX7_init_119 ?_
  refine n_new (N := 7) (m := 33 + 7 * 6) kn_X7_43 rfl (by omega) ((zl_ch (by omega)).1) hz (by decide) (by decide) dX7_init_120 ?_
  have z1 := zfr_n hz (m := 33 + 7 * 6) (by omega)
  refine z_dup rfl dX7_init_123 ?_
  refine z_callIN (as := []) (ct_X0_init (i := 6) (by omega) z1) ko_X0_init kl_X7_61 rfl rfl (by omega) rfl ⟨by decide, by decide, by decide, by decide⟩ (Nat.le_of_ble_eq_true rfl) rfl dX7_init_124 ?_
  show zV false E kX7_init 1 _ 127 [.ref (1), .int (nI 6)] [.ref (33 + 7 * 6), .int (nI 6), .ref (20)] (zc (zu μ (33 + 7 * 6) 0 (nI 0)) (zur (zur (zur (zur (zur (zur ρ (33 + 7 * 6) 1 (34 + 7 * 6)) (33 + 7 * 6) 2 (35 + 7 * 6)) (33 + 7 * 6) 3 (36 + 7 * 6)) (33 + 7 * 6) 4 (37 + 7 * 6)) (33 + 7 * 6) 5 (38 + 7 * 6)) (33 + 7 * 6) 6 (39 + 7 * 6)) (39 + 7 * 6)) 80 1805
  have z2 := zfi_0 (i := 6) z1
  refine n_aast (6) (Or.inl ⟨rfl, rfl⟩) (zc_at rfl (by omega) (by omega)) (zc_at (zl_ch (by omega)).1 (by omega) (by omega)) rfl (by omega) (by decide) dX7_init_127 ?_
  have z3 := zfr_r (k := 20) (j := 6) (v := 33 + 7 * 6) z2 (by omega)
  refine z_iinc (nI 7) rfl (zinc _) (by decide) rfl dX7_init_128 ?_
  refine z_goto 109 (by decide) dX7_init_131 ?_
  exact kk z3
set_option maxRecDepth 100000 in
set_option maxHeartbeats 4000000 in
theorem s3_7_X7_init {E : Nat × (Nat → Int32)} {μ : zMu} {ρ : zRh} {O : zO} (r5 : ρ 1 5 = 20) (hz : zfr μ ρ (39 + 7 * 6)) (kk : zfr (zu μ (33 + 7 * 7) 0 (nI 0)) (zur (zur (zur (zur (zur (zur (zur ρ (33 + 7 * 7) 1 (34 + 7 * 7)) (33 + 7 * 7) 2 (35 + 7 * 7)) (33 + 7 * 7) 3 (36 + 7 * 7)) (33 + 7 * 7) 4 (37 + 7 * 7)) (33 + 7 * 7) 5 (38 + 7 * 7)) (33 + 7 * 7) 6 (39 + 7 * 7)) (20) (7) (33 + 7 * 7)) (39 + 7 * 7) → zV false E kX7_init 1 O 109 [.ref (1), .int (nI 8)] [] (zc (zu μ (33 + 7 * 7) 0 (nI 0)) (zur (zur (zur (zur (zur (zur (zur ρ (33 + 7 * 7) 1 (34 + 7 * 7)) (33 + 7 * 7) 2 (35 + 7 * 7)) (33 + 7 * 7) 3 (36 + 7 * 7)) (33 + 7 * 7) 4 (37 + 7 * 7)) (33 + 7 * 7) 5 (38 + 7 * 7)) (33 + 7 * 7) 6 (39 + 7 * 7)) (20) (7) (33 + 7 * 7)) (39 + 7 * 7)) 87 1931) : zV false E kX7_init 1 O 109 [.ref (1), .int (nI 7)] [] (zc μ ρ (39 + 7 * 6)) 80 1805 := by
  refine z_iload_n rfl rfl dX7_init_109 ?_
  refine z_bipush (nI 12) (by decide) dX7_init_110 ?_
  refine z_icmp_ge 134 (by decide) dX7_init_112 (fun h => absurd h (by decide)) (fun _ => ?_)
  refine z_aload_n rfl rfl dX7_init_115 ?_
  refine n_getR (20) kf_X7_45 (zc_at rfl (by omega) (by omega)) rfl r5 (by omega) dX7_init_116 ?_
  refine z_iload_n rfl rfl dX7_init_119 ?_
  refine n_new (N := 7) (m := 33 + 7 * 7) kn_X7_43 rfl (by omega) ((zl_ch (by omega)).1) hz (by decide) (by decide) dX7_init_120 ?_
  have z1 := zfr_n hz (m := 33 + 7 * 7) (by omega)
  refine z_dup rfl dX7_init_123 ?_
  refine z_callIN (as := []) (ct_X0_init (i := 7) (by omega) z1) ko_X0_init kl_X7_61 rfl rfl (by omega) rfl ⟨by decide, by decide, by decide, by decide⟩ (Nat.le_of_ble_eq_true rfl) rfl dX7_init_124 ?_
  show zV false E kX7_init 1 _ 127 [.ref (1), .int (nI 7)] [.ref (33 + 7 * 7), .int (nI 7), .ref (20)] (zc (zu μ (33 + 7 * 7) 0 (nI 0)) (zur (zur (zur (zur (zur (zur ρ (33 + 7 * 7) 1 (34 + 7 * 7)) (33 + 7 * 7) 2 (35 + 7 * 7)) (33 + 7 * 7) 3 (36 + 7 * 7)) (33 + 7 * 7) 4 (37 + 7 * 7)) (33 + 7 * 7) 5 (38 + 7 * 7)) (33 + 7 * 7) 6 (39 + 7 * 7)) (39 + 7 * 7)) 87 1931
  have z2 := zfi_0 (i := 7) z1
  refine n_aast (7) (Or.inl ⟨rfl, rfl⟩) (zc_at rfl (by omega) (by omega)) (zc_at (zl_ch (by omega)).1 (by omega) (by omega)) rfl (by omega) (by decide) dX7_init_127 ?_
  have z3 := zfr_r (k := 20) (j := 7) (v := 33 + 7 * 7) z2 (by omega)
  refine z_iinc (nI 8) rfl (zinc _) (by decide) rfl dX7_init_128 ?_
  refine z_goto 109 (by decide) dX7_init_131 ?_
  exact kk z3
set_option maxRecDepth 100000 in
set_option maxHeartbeats 4000000 in
theorem s3_8_X7_init {E : Nat × (Nat → Int32)} {μ : zMu} {ρ : zRh} {O : zO} (r5 : ρ 1 5 = 20) (hz : zfr μ ρ (39 + 7 * 7)) (kk : zfr (zu μ (33 + 7 * 8) 0 (nI 0)) (zur (zur (zur (zur (zur (zur (zur ρ (33 + 7 * 8) 1 (34 + 7 * 8)) (33 + 7 * 8) 2 (35 + 7 * 8)) (33 + 7 * 8) 3 (36 + 7 * 8)) (33 + 7 * 8) 4 (37 + 7 * 8)) (33 + 7 * 8) 5 (38 + 7 * 8)) (33 + 7 * 8) 6 (39 + 7 * 8)) (20) (8) (33 + 7 * 8)) (39 + 7 * 8) → zV false E kX7_init 1 O 109 [.ref (1), .int (nI 9)] [] (zc (zu μ (33 + 7 * 8) 0 (nI 0)) (zur (zur (zur (zur (zur (zur (zur ρ (33 + 7 * 8) 1 (34 + 7 * 8)) (33 + 7 * 8) 2 (35 + 7 * 8)) (33 + 7 * 8) 3 (36 + 7 * 8)) (33 + 7 * 8) 4 (37 + 7 * 8)) (33 + 7 * 8) 5 (38 + 7 * 8)) (33 + 7 * 8) 6 (39 + 7 * 8)) (20) (8) (33 + 7 * 8)) (39 + 7 * 8)) 94 2057) : zV false E kX7_init 1 O 109 [.ref (1), .int (nI 8)] [] (zc μ ρ (39 + 7 * 7)) 87 1931 := by
  refine z_iload_n rfl rfl dX7_init_109 ?_
  refine z_bipush (nI 12) (by decide) dX7_init_110 ?_
  refine z_icmp_ge 134 (by decide) dX7_init_112 (fun h => absurd h (by decide)) (fun _ => ?_)
  refine z_aload_n rfl rfl dX7_init_115 ?_
  refine n_getR (20) kf_X7_45 (zc_at rfl (by omega) (by omega)) rfl r5 (by omega) dX7_init_116 ?_
  refine z_iload_n rfl rfl dX7_init_119 ?_
  refine n_new (N := 7) (m := 33 + 7 * 8) kn_X7_43 rfl (by omega) ((zl_ch (by omega)).1) hz (by decide) (by decide) dX7_init_120 ?_
  have z1 := zfr_n hz (m := 33 + 7 * 8) (by omega)
  refine z_dup rfl dX7_init_123 ?_
  refine z_callIN (as := []) (ct_X0_init (i := 8) (by omega) z1) ko_X0_init kl_X7_61 rfl rfl (by omega) rfl ⟨by decide, by decide, by decide, by decide⟩ (Nat.le_of_ble_eq_true rfl) rfl dX7_init_124 ?_
  show zV false E kX7_init 1 _ 127 [.ref (1), .int (nI 8)] [.ref (33 + 7 * 8), .int (nI 8), .ref (20)] (zc (zu μ (33 + 7 * 8) 0 (nI 0)) (zur (zur (zur (zur (zur (zur ρ (33 + 7 * 8) 1 (34 + 7 * 8)) (33 + 7 * 8) 2 (35 + 7 * 8)) (33 + 7 * 8) 3 (36 + 7 * 8)) (33 + 7 * 8) 4 (37 + 7 * 8)) (33 + 7 * 8) 5 (38 + 7 * 8)) (33 + 7 * 8) 6 (39 + 7 * 8)) (39 + 7 * 8)) 94 2057
  have z2 := zfi_0 (i := 8) z1
  refine n_aast (8) (Or.inl ⟨rfl, rfl⟩) (zc_at rfl (by omega) (by omega)) (zc_at (zl_ch (by omega)).1 (by omega) (by omega)) rfl (by omega) (by decide) dX7_init_127 ?_
  have z3 := zfr_r (k := 20) (j := 8) (v := 33 + 7 * 8) z2 (by omega)
  refine z_iinc (nI 9) rfl (zinc _) (by decide) rfl dX7_init_128 ?_
  refine z_goto 109 (by decide) dX7_init_131 ?_
  exact kk z3
set_option maxRecDepth 100000 in
set_option maxHeartbeats 4000000 in
theorem s3_9_X7_init {E : Nat × (Nat → Int32)} {μ : zMu} {ρ : zRh} {O : zO} (r5 : ρ 1 5 = 20) (hz : zfr μ ρ (39 + 7 * 8)) (kk : zfr (zu μ (33 + 7 * 9) 0 (nI 0)) (zur (zur (zur (zur (zur (zur (zur ρ (33 + 7 * 9) 1 (34 + 7 * 9)) (33 + 7 * 9) 2 (35 + 7 * 9)) (33 + 7 * 9) 3 (36 + 7 * 9)) (33 + 7 * 9) 4 (37 + 7 * 9)) (33 + 7 * 9) 5 (38 + 7 * 9)) (33 + 7 * 9) 6 (39 + 7 * 9)) (20) (9) (33 + 7 * 9)) (39 + 7 * 9) → zV false E kX7_init 1 O 109 [.ref (1), .int (nI 10)] [] (zc (zu μ (33 + 7 * 9) 0 (nI 0)) (zur (zur (zur (zur (zur (zur (zur ρ (33 + 7 * 9) 1 (34 + 7 * 9)) (33 + 7 * 9) 2 (35 + 7 * 9)) (33 + 7 * 9) 3 (36 + 7 * 9)) (33 + 7 * 9) 4 (37 + 7 * 9)) (33 + 7 * 9) 5 (38 + 7 * 9)) (33 + 7 * 9) 6 (39 + 7 * 9)) (20) (9) (33 + 7 * 9)) (39 + 7 * 9)) 101 2183) : zV false E kX7_init 1 O 109 [.ref (1), .int (nI 9)] [] (zc μ ρ (39 + 7 * 8)) 94 2057 := by
  refine z_iload_n rfl rfl dX7_init_109 ?_
  refine z_bipush (nI 12) (by decide) dX7_init_110 ?_
  refine z_icmp_ge 134 (by decide) dX7_init_112 (fun h => absurd h (by decide)) (fun _ => ?_)
  refine z_aload_n rfl rfl dX7_init_115 ?_
  refine n_getR (20) kf_X7_45 (zc_at rfl (by omega) (by omega)) rfl r5 (by omega) dX7_init_116 ?_
  refine z_iload_n rfl rfl dX7_init_119 ?_
  refine n_new (N := 7) (m := 33 + 7 * 9) kn_X7_43 rfl (by omega) ((zl_ch (by omega)).1) hz (by decide) (by decide) dX7_init_120 ?_
  have z1 := zfr_n hz (m := 33 + 7 * 9) (by omega)
  refine z_dup rfl dX7_init_123 ?_
  refine z_callIN (as := []) (ct_X0_init (i := 9) (by omega) z1) ko_X0_init kl_X7_61 rfl rfl (by omega) rfl ⟨by decide, by decide, by decide, by decide⟩ (Nat.le_of_ble_eq_true rfl) rfl dX7_init_124 ?_
  show zV false E kX7_init 1 _ 127 [.ref (1), .int (nI 9)] [.ref (33 + 7 * 9), .int (nI 9), .ref (20)] (zc (zu μ (33 + 7 * 9) 0 (nI 0)) (zur (zur (zur (zur (zur (zur ρ (33 + 7 * 9) 1 (34 + 7 * 9)) (33 + 7 * 9) 2 (35 + 7 * 9)) (33 + 7 * 9) 3 (36 + 7 * 9)) (33 + 7 * 9) 4 (37 + 7 * 9)) (33 + 7 * 9) 5 (38 + 7 * 9)) (33 + 7 * 9) 6 (39 + 7 * 9)) (39 + 7 * 9)) 101 2183
  have z2 := zfi_0 (i := 9) z1
  refine n_aast (9) (Or.inl ⟨rfl, rfl⟩) (zc_at rfl (by omega) (by omega)) (zc_at (zl_ch (by omega)).1 (by omega) (by omega)) rfl (by omega) (by decide) dX7_init_127 ?_
  have z3 := zfr_r (k := 20) (j := 9) (v := 33 + 7 * 9) z2 (by omega)
  refine z_iinc (nI 10) rfl (zinc _) (by decide) rfl dX7_init_128 ?_
  refine z_goto 109 (by decide) dX7_init_131 ?_
  exact kk z3
set_option maxRecDepth 100000 in
set_option maxHeartbeats 4000000 in
theorem s3_10_X7_init {E : Nat × (Nat → Int32)} {μ : zMu} {ρ : zRh} {O : zO} (r5 : ρ 1 5 = 20) (hz : zfr μ ρ (39 + 7 * 9)) (kk : zfr (zu μ (33 + 7 * 10) 0 (nI 0)) (zur (zur (zur (zur (zur (zur (zur ρ (33 + 7 * 10) 1 (34 + 7 * 10)) (33 + 7 * 10) 2 (35 + 7 * 10)) (33 + 7 * 10) 3 (36 + 7 * 10)) (33 + 7 * 10) 4 (37 + 7 * 10)) (33 + 7 * 10) 5 (38 + 7 * 10)) (33 + 7 * 10) 6 (39 + 7 * 10)) (20) (10) (33 + 7 * 10)) (39 + 7 * 10) → zV false E kX7_init 1 O 109 [.ref (1), .int (nI 11)] [] (zc (zu μ (33 + 7 * 10) 0 (nI 0)) (zur (zur (zur (zur (zur (zur (zur ρ (33 + 7 * 10) 1 (34 + 7 * 10)) (33 + 7 * 10) 2 (35 + 7 * 10)) (33 + 7 * 10) 3 (36 + 7 * 10)) (33 + 7 * 10) 4 (37 + 7 * 10)) (33 + 7 * 10) 5 (38 + 7 * 10)) (33 + 7 * 10) 6 (39 + 7 * 10)) (20) (10) (33 + 7 * 10)) (39 + 7 * 10)) 108 2309) : zV false E kX7_init 1 O 109 [.ref (1), .int (nI 10)] [] (zc μ ρ (39 + 7 * 9)) 101 2183 := by
  refine z_iload_n rfl rfl dX7_init_109 ?_
  refine z_bipush (nI 12) (by decide) dX7_init_110 ?_
  refine z_icmp_ge 134 (by decide) dX7_init_112 (fun h => absurd h (by decide)) (fun _ => ?_)
  refine z_aload_n rfl rfl dX7_init_115 ?_
  refine n_getR (20) kf_X7_45 (zc_at rfl (by omega) (by omega)) rfl r5 (by omega) dX7_init_116 ?_
  refine z_iload_n rfl rfl dX7_init_119 ?_
  refine n_new (N := 7) (m := 33 + 7 * 10) kn_X7_43 rfl (by omega) ((zl_ch (by omega)).1) hz (by decide) (by decide) dX7_init_120 ?_
  have z1 := zfr_n hz (m := 33 + 7 * 10) (by omega)
  refine z_dup rfl dX7_init_123 ?_
  refine z_callIN (as := []) (ct_X0_init (i := 10) (by omega) z1) ko_X0_init kl_X7_61 rfl rfl (by omega) rfl ⟨by decide, by decide, by decide, by decide⟩ (Nat.le_of_ble_eq_true rfl) rfl dX7_init_124 ?_
  show zV false E kX7_init 1 _ 127 [.ref (1), .int (nI 10)] [.ref (33 + 7 * 10), .int (nI 10), .ref (20)] (zc (zu μ (33 + 7 * 10) 0 (nI 0)) (zur (zur (zur (zur (zur (zur ρ (33 + 7 * 10) 1 (34 + 7 * 10)) (33 + 7 * 10) 2 (35 + 7 * 10)) (33 + 7 * 10) 3 (36 + 7 * 10)) (33 + 7 * 10) 4 (37 + 7 * 10)) (33 + 7 * 10) 5 (38 + 7 * 10)) (33 + 7 * 10) 6 (39 + 7 * 10)) (39 + 7 * 10)) 108 2309
  have z2 := zfi_0 (i := 10) z1
  refine n_aast (10) (Or.inl ⟨rfl, rfl⟩) (zc_at rfl (by omega) (by omega)) (zc_at (zl_ch (by omega)).1 (by omega) (by omega)) rfl (by omega) (by decide) dX7_init_127 ?_
  have z3 := zfr_r (k := 20) (j := 10) (v := 33 + 7 * 10) z2 (by omega)
  refine z_iinc (nI 11) rfl (zinc _) (by decide) rfl dX7_init_128 ?_
  refine z_goto 109 (by decide) dX7_init_131 ?_
  exact kk z3
set_option maxRecDepth 100000 in
set_option maxHeartbeats 4000000 in
theorem s3_11_X7_init {E : Nat × (Nat → Int32)} {μ : zMu} {ρ : zRh} {O : zO} (r5 : ρ 1 5 = 20) (hz : zfr μ ρ (39 + 7 * 10)) (kk : zfr (zu μ (33 + 7 * 11) 0 (nI 0)) (zur (zur (zur (zur (zur (zur (zur ρ (33 + 7 * 11) 1 (34 + 7 * 11)) (33 + 7 * 11) 2 (35 + 7 * 11)) (33 + 7 * 11) 3 (36 + 7 * 11)) (33 + 7 * 11) 4 (37 + 7 * 11)) (33 + 7 * 11) 5 (38 + 7 * 11)) (33 + 7 * 11) 6 (39 + 7 * 11)) (20) (11) (33 + 7 * 11)) (39 + 7 * 11) → zV false E kX7_init 1 O 109 [.ref (1), .int (nI 12)] [] (zc (zu μ (33 + 7 * 11) 0 (nI 0)) (zur (zur (zur (zur (zur (zur (zur ρ (33 + 7 * 11) 1 (34 + 7 * 11)) (33 + 7 * 11) 2 (35 + 7 * 11)) (33 + 7 * 11) 3 (36 + 7 * 11)) (33 + 7 * 11) 4 (37 + 7 * 11)) (33 + 7 * 11) 5 (38 + 7 * 11)) (33 + 7 * 11) 6 (39 + 7 * 11)) (20) (11) (33 + 7 * 11)) (39 + 7 * 11)) 115 2435) : zV false E kX7_init 1 O 109 [.ref (1), .int (nI 11)] [] (zc μ ρ (39 + 7 * 10)) 108 2309 := by
  refine z_iload_n rfl rfl dX7_init_109 ?_
  refine z_bipush (nI 12) (by decide) dX7_init_110 ?_
  refine z_icmp_ge 134 (by decide) dX7_init_112 (fun h => absurd h (by decide)) (fun _ => ?_)
  refine z_aload_n rfl rfl dX7_init_115 ?_
  refine n_getR (20) kf_X7_45 (zc_at rfl (by omega) (by omega)) rfl r5 (by omega) dX7_init_116 ?_
  refine z_iload_n rfl rfl dX7_init_119 ?_
  refine n_new (N := 7) (m := 33 + 7 * 11) kn_X7_43 rfl (by omega) ((zl_ch (by omega)).1) hz (by decide) (by decide) dX7_init_120 ?_
  have z1 := zfr_n hz (m := 33 + 7 * 11) (by omega)
  refine z_dup rfl dX7_init_123 ?_
  refine z_callIN (as := []) (ct_X0_init (i := 11) (by omega) z1) ko_X0_init kl_X7_61 rfl rfl (by omega) rfl ⟨by decide, by decide, by decide, by decide⟩ (Nat.le_of_ble_eq_true rfl) rfl dX7_init_124 ?_
  show zV false E kX7_init 1 _ 127 [.ref (1), .int (nI 11)] [.ref (33 + 7 * 11), .int (nI 11), .ref (20)] (zc (zu μ (33 + 7 * 11) 0 (nI 0)) (zur (zur (zur (zur (zur (zur ρ (33 + 7 * 11) 1 (34 + 7 * 11)) (33 + 7 * 11) 2 (35 + 7 * 11)) (33 + 7 * 11) 3 (36 + 7 * 11)) (33 + 7 * 11) 4 (37 + 7 * 11)) (33 + 7 * 11) 5 (38 + 7 * 11)) (33 + 7 * 11) 6 (39 + 7 * 11)) (39 + 7 * 11)) 115 2435
  have z2 := zfi_0 (i := 11) z1
  refine n_aast (11) (Or.inl ⟨rfl, rfl⟩) (zc_at rfl (by omega) (by omega)) (zc_at (zl_ch (by omega)).1 (by omega) (by omega)) rfl (by omega) (by decide) dX7_init_127 ?_
  have z3 := zfr_r (k := 20) (j := 11) (v := 33 + 7 * 11) z2 (by omega)
  refine z_iinc (nI 12) rfl (zinc _) (by decide) rfl dX7_init_128 ?_
  refine z_goto 109 (by decide) dX7_init_131 ?_
  exact kk z3
def c7mu (μ : zMu) : zMu := (zu (zu (zu (zu (zu (zu (zu (zu (zu (zu (zu (zu (i2 3 (i2 2 (i2 1 (i2 0 (zu (zu (zu (zu (zit ib1 0 24 μ) 7 2 (nI 0)) 10 4 (nI 0)) 21 3 (nI 0)) (1) 7 (nI 0)))))) (33 + 7 * 0) 0 (nI 0)) (33 + 7 * 1) 0 (nI 0)) (33 + 7 * 2) 0 (nI 0)) (33 + 7 * 3) 0 (nI 0)) (33 + 7 * 4) 0 (nI 0)) (33 + 7 * 5) 0 (nI 0)) (33 + 7 * 6) 0 (nI 0)) (33 + 7 * 7) 0 (nI 0)) (33 + 7 * 8) 0 (nI 0)) (33 + 7 * 9) 0 (nI 0)) (33 + 7 * 10) 0 (nI 0)) (33 + 7 * 11) 0 (nI 0))
def c7rho (ρ : zRh) : zRh := (zur (zur (zur (zur (zur (zur (zur (zur (zur (zur (zur (zur (zur (zur (zur (zur (zur (zur (zur (zur (zur (zur (zur (zur (zur (zur (zur (zur (zur (zur (zur (zur (zur (zur (zur (zur (zur (zur (zur (zur (zur (zur (zur (zur (zur (zur (zur (zur (zur (zur (zur (zur (zur (zur (zur (zur (zur (zur (zur (zur (zur (zur (zur (zur (zur (zur (zur (zur (zur (zur (zur (zur (zur (zur (zur (zur (zur (zur (zur (zur (zur (zur (zur (zur (zur (zur (zur (zur (zur (zur (zur (zur (zur (zur (zur (zur (zur (zur (zur (zur (zur (zur (zur (zur (zur (zur (zur (zur (zur (zur (zur (zur (zur (zur (zur ρ (2) 0 (3)) (2) 1 (4)) (2) 2 (5)) (2) 3 (6)) (1) 0 (2)) (7) 0 (8)) (7) 1 (9)) (1) 1 (7)) (10) 0 (11)) (10) 1 (12)) (10) 2 (13)) (10) 3 (14)) (1) 2 (10)) (15) 0 (16)) (15) 1 (17)) (15) 2 (18)) (1) 3 (15)) (1) 4 (19)) (1) 5 (20)) (21) 0 (22)) (21) 1 (23)) (21) 2 (24)) (1) 6 (21)) (25 + 2 * 0) 1 (26 + 2 * 0)) (19) (0) (25 + 2 * 0)) (25 + 2 * 1) 1 (26 + 2 * 1)) (19) (1) (25 + 2 * 1)) (25 + 2 * 2) 1 (26 + 2 * 2)) (19) (2) (25 + 2 * 2)) (25 + 2 * 3) 1 (26 + 2 * 3)) (19) (3) (25 + 2 * 3)) (33 + 7 * 0) 1 (34 + 7 * 0)) (33 + 7 * 0) 2 (35 + 7 * 0)) (33 + 7 * 0) 3 (36 + 7 * 0)) (33 + 7 * 0) 4 (37 + 7 * 0)) (33 + 7 * 0) 5 (38 + 7 * 0)) (33 + 7 * 0) 6 (39 + 7 * 0)) (20) (0) (33 + 7 * 0)) (33 + 7 * 1) 1 (34 + 7 * 1)) (33 + 7 * 1) 2 (35 + 7 * 1)) (33 + 7 * 1) 3 (36 + 7 * 1)) (33 + 7 * 1) 4 (37 + 7 * 1)) (33 + 7 * 1) 5 (38 + 7 * 1)) (33 + 7 * 1) 6 (39 + 7 * 1)) (20) (1) (33 + 7 * 1)) (33 + 7 * 2) 1 (34 + 7 * 2)) (33 + 7 * 2) 2 (35 + 7 * 2)) (33 + 7 * 2) 3 (36 + 7 * 2)) (33 + 7 * 2) 4 (37 + 7 * 2)) (33 + 7 * 2) 5 (38 + 7 * 2)) (33 + 7 * 2) 6 (39 + 7 * 2)) (20) (2) (33 + 7 * 2)) (33 + 7 * 3) 1 (34 + 7 * 3)) (33 + 7 * 3) 2 (35 + 7 * 3)) (33 + 7 * 3) 3 (36 + 7 * 3)) (33 + 7 * 3) 4 (37 + 7 * 3)) (33 + 7 * 3) 5 (38 + 7 * 3)) (33 + 7 * 3) 6 (39 + 7 * 3)) (20) (3) (33 + 7 * 3)) (33 + 7 * 4) 1 (34 + 7 * 4)) (33 + 7 * 4) 2 (35 + 7 * 4)) (33 + 7 * 4) 3 (36 + 7 * 4)) (33 + 7 * 4) 4 (37 + 7 * 4)) (33 + 7 * 4) 5 (38 + 7 * 4)) (33 + 7 * 4) 6 (39 + 7 * 4)) (20) (4) (33 + 7 * 4)) (33 + 7 * 5) 1 (34 + 7 * 5)) (33 + 7 * 5) 2 (35 + 7 * 5)) (33 + 7 * 5) 3 (36 + 7 * 5)) (33 + 7 * 5) 4 (37 + 7 * 5)) (33 + 7 * 5) 5 (38 + 7 * 5)) (33 + 7 * 5) 6 (39 + 7 * 5)) (20) (5) (33 + 7 * 5)) (33 + 7 * 6) 1 (34 + 7 * 6)) (33 + 7 * 6) 2 (35 + 7 * 6)) (33 + 7 * 6) 3 (36 + 7 * 6)) (33 + 7 * 6) 4 (37 + 7 * 6)) (33 + 7 * 6) 5 (38 + 7 * 6)) (33 + 7 * 6) 6 (39 + 7 * 6)) (20) (6) (33 + 7 * 6)) (33 + 7 * 7) 1 (34 + 7 * 7)) (33 + 7 * 7) 2 (35 + 7 * 7)) (33 + 7 * 7) 3 (36 + 7 * 7)) (33 + 7 * 7) 4 (37 + 7 * 7)) (33 + 7 * 7) 5 (38 + 7 * 7)) (33 + 7 * 7) 6 (39 + 7 * 7)) (20) (7) (33 + 7 * 7)) (33 + 7 * 8) 1 (34 + 7 * 8)) (33 + 7 * 8) 2 (35 + 7 * 8)) (33 + 7 * 8) 3 (36 + 7 * 8)) (33 + 7 * 8) 4 (37 + 7 * 8)) (33 + 7 * 8) 5 (38 + 7 * 8)) (33 + 7 * 8) 6 (39 + 7 * 8)) (20) (8) (33 + 7 * 8)) (33 + 7 * 9) 1 (34 + 7 * 9)) (33 + 7 * 9) 2 (35 + 7 * 9)) (33 + 7 * 9) 3 (36 + 7 * 9)) (33 + 7 * 9) 4 (37 + 7 * 9)) (33 + 7 * 9) 5 (38 + 7 * 9)) (33 + 7 * 9) 6 (39 + 7 * 9)) (20) (9) (33 + 7 * 9)) (33 + 7 * 10) 1 (34 + 7 * 10)) (33 + 7 * 10) 2 (35 + 7 * 10)) (33 + 7 * 10) 3 (36 + 7 * 10)) (33 + 7 * 10) 4 (37 + 7 * 10)) (33 + 7 * 10) 5 (38 + 7 * 10)) (33 + 7 * 10) 6 (39 + 7 * 10)) (20) (10) (33 + 7 * 10)) (33 + 7 * 11) 1 (34 + 7 * 11)) (33 + 7 * 11) 2 (35 + 7 * 11)) (33 + 7 * 11) 3 (36 + 7 * 11)) (33 + 7 * 11) 4 (37 + 7 * 11)) (33 + 7 * 11) 5 (38 + 7 * 11)) (33 + 7 * 11) 6 (39 + 7 * 11)) (20) (11) (33 + 7 * 11))
set_option maxRecDepth 100000 in
set_option maxHeartbeats 4000000 in
theorem ct_X7_init {E : Nat × (Nat → Int32)} {μ : zMu} {ρ : zRh} (hz : zfr μ ρ 1) : zCt E kX7_init [.ref 1] (zc μ ρ 1) (.inl none, zc (c7mu μ) (c7rho ρ) 116) := by
  refine zCt_of ko_X7_init (Nat.le_of_ble_eq_true rfl) (zas_r zas_0) ⟨by show 1 ≤ 116; omega, fun _ => rfl⟩ (by show 0 < 1; omega) ?_
  show zV false E kX7_init 1 _ 0 [.ref (1), .null] [] (zc μ ρ 1) 0 0
  refine s1_X7_init hz (fun z1 => ?_)
  refine s2_0_X7_init rfl z1 (fun z2 => ?_)
  refine s2_1_X7_init rfl z2 (fun z3 => ?_)
  refine s2_2_X7_init rfl z3 (fun z4 => ?_)
  refine s2_3_X7_init rfl z4 (fun z5 => ?_)
  refine z_iload_n rfl rfl dX7_init_83 ?_
  refine z_iconst (nI 4) (by decide) dX7_init_84 ?_
  refine z_icmp_ge 107 (by decide) dX7_init_85 (fun _ => ?_) (fun h => absurd h (by decide))
  refine z_iconst (nI 0) (by decide) dX7_init_107 ?_
  refine z_istore_n rfl (by decide) rfl dX7_init_108 ?_
  refine s3_0_X7_init rfl z5 (fun z6 => ?_)
  refine s3_1_X7_init rfl z6 (fun z7 => ?_)
  refine s3_2_X7_init rfl z7 (fun z8 => ?_)
  refine s3_3_X7_init rfl z8 (fun z9 => ?_)
  refine s3_4_X7_init rfl z9 (fun z10 => ?_)
  refine s3_5_X7_init rfl z10 (fun z11 => ?_)
  refine s3_6_X7_init rfl z11 (fun z12 => ?_)
  refine s3_7_X7_init rfl z12 (fun z13 => ?_)
  refine s3_8_X7_init rfl z13 (fun z14 => ?_)
  refine s3_9_X7_init rfl z14 (fun z15 => ?_)
  refine s3_10_X7_init rfl z15 (fun z16 => ?_)
  refine s3_11_X7_init rfl z16 (fun z17 => ?_)
  refine z_iload_n rfl rfl dX7_init_109 ?_
  refine z_bipush (nI 12) (by decide) dX7_init_110 ?_
  refine z_icmp_ge 134 (by decide) dX7_init_112 (fun _ => ?_) (fun h => absurd h (by decide))
  exact z_vret (rfl) rfl (by decide) (by decide) dX7_init_134
