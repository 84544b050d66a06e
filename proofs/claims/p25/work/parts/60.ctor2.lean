/-! the constructors with loops (printed by wip/whole/gen_p.py) -/
def ib1 (i : Nat) (ν : zMu) : zMu := zu (zu ν 5 i (nI (i + 1))) 6 i (nI 1000)
def ib2 (c i : Nat) (ν : zMu) : zMu := zu ν (26 + 2 * c) i (nI i)
def i2 (c : Nat) (μ : zMu) : zMu := zit (ib2 c) 0 100 (zu μ (25 + 2 * c) 0 (nI 0))
def ib8 (i : Nat) (ν : zMu) : zMu := zu (zu ν 120 i (nI (i + 1))) 121 i (nI 1000)
def ib9 (c i : Nat) (ν : zMu) : zMu := zu ν 136 (100 * c + i) (nI i)
def i8 (μ : zMu) : zMu := zit (fun c ν => zit (ib9 c) 0 100 ν) 0 4 (zit ib8 0 24 μ)
set_option maxRecDepth 100000 in
set_option maxHeartbeats 4000000 in
theorem lp_X1_init {E : Nat × (Nat → Int32)} {μ : zMu} {ρ : zRh} (r2 : ρ 2 2 = 5) (r3 : ρ 2 3 = 6) : ∀ (q : Nat) (m : Nat) (ν : zMu), 24 - m = q → m ≤ 24 → ν = zit (ib1) 0 m μ → zfr ν ρ 6 → zV false E kX1_init 2 (.inl none, zc (zit ib1 0 24 μ) ρ 6) 38 [.ref (2), .int (nI m)] [] (zc ν ρ 6) 4 96 := by
  intro q
  induction q using Nat.strongRecOn with
  | ind q ih =>
    intro m ν hm hle hs hz
    refine z_iload_n rfl rfl dX1_init_38 ?_
    refine z_bipush (nI 24) (by decide) dX1_init_39 ?_
    refine z_icmp_ge 68 (by decide) dX1_init_41 (z_br (zcn (n := 24) (by omega) (m) (by omega)).2.2 (fun h1 => ?_)) (z_brn (zcn (n := 24) (by omega) (m) (by omega)).2.2 (fun h2 => ?_))
    · have hmL : m = 24 := by omega
      have he : ν = zit (ib1) 0 24 μ := by rw [hs, hmL]
      exact z_vret (by rw [he]) rfl (by decide) (by decide) dX1_init_68
    · refine z_aload_n rfl rfl dX1_init_44 ?_
      refine n_getR (5) kf_X1_18 (zc_at rfl (by omega) (by omega)) rfl r2 (by omega) dX1_init_45 ?_
      refine z_iload_n rfl rfl dX1_init_48 ?_
      refine z_iload_n rfl rfl dX1_init_49 ?_
      refine z_iconst (nI 1) (by decide) dX1_init_50 ?_
      refine m_addN dX1_init_51 ?_
      refine n_iast (m) (zc_at rfl (by omega) (by omega)) rfl (by omega) (by decide) dX1_init_52 ?_
      have z3 := zfr_i (k := 5) (j := m) (x := nI (m + 1)) hz (by omega)
      refine z_aload_n rfl rfl dX1_init_53 ?_
      refine n_getR (6) kf_X1_21 (zc_at rfl (by omega) (by omega)) rfl r3 (by omega) dX1_init_54 ?_
      refine z_iload_n rfl rfl dX1_init_57 ?_
      refine z_sipush (nI 1000) (by decide) dX1_init_58 ?_
      refine n_iast (m) (zc_at rfl (by omega) (by omega)) rfl (by omega) (by decide) dX1_init_61 ?_
      have z4 := zfr_i (k := 6) (j := m) (x := nI 1000) z3 (by omega)
      refine z_iinc (nI (m + 1)) rfl (zinc _) (by decide) rfl dX1_init_62 ?_
      refine z_goto 38 (by decide) dX1_init_65 ?_
      exact ih (24 - (m + 1)) (by omega) (m + 1) (zu (zu ν (5) (m) (nI (m + 1))) (6) (m) (nI 1000)) rfl (by omega) (zst0 hs rfl) z4
set_option maxRecDepth 100000 in
set_option maxHeartbeats 4000000 in
theorem ct_X1_init {E : Nat × (Nat → Int32)} {μ : zMu} {ρ : zRh}  (hz : zfr μ ρ (2)) : zCt E kX1_init [.ref (2)] (zc μ ρ (2)) (.inl none, zc (zit ib1 0 24 μ) (zur (zur (zur (zur ρ (2) 0 (3)) (2) 1 (4)) (2) 2 (5)) (2) 3 (6)) (6)) := by
  refine zCt_of ko_X1_init (Nat.le_of_ble_eq_true rfl) (zas_r zas_0) ⟨by show 2 ≤ 6; omega, fun _ => rfl⟩ (by show 0 < 2; omega) ?_
  show zV false E kX1_init (2) _ 0 [.ref (2), .null] [] (zc μ ρ (2)) 0 0
  refine z_aload_n rfl rfl dX1_init_0 ?_
  refine z_objInit kl_X1_3 kob_i kob_c (by decide) (by decide) dX1_init_1 ?_
  refine z_aload_n rfl rfl dX1_init_4 ?_
  refine z_bipush (nI 24) (by decide) dX1_init_5 ?_
  refine n_newarr (t := 1) (N := 24) (m := 3) (Or.inl ⟨rfl, rfl⟩) ka_int (nI_pos (by decide)) (nI_clamp (by decide)) (by decide) (by omega) rfl hz (by decide) (by decide) dX1_init_7 ?_
  have z1 := zfr_n hz (m := 3) (by omega)
  refine n_putR kf_X1_9 (zc_at rfl (by omega) (by omega)) rfl (by omega) rfl (fun C T N h => by cases h; rfl) dX1_init_9 ?_
  have z2 := zfr_r (k := 2) (j := 0) (v := 3) z1 (by omega)
  refine z_aload_n rfl rfl dX1_init_12 ?_
  refine z_bipush (nI 24) (by decide) dX1_init_13 ?_
  refine n_newarr (t := 1) (N := 24) (m := 4) (Or.inl ⟨rfl, rfl⟩) ka_int (nI_pos (by decide)) (nI_clamp (by decide)) (by decide) (by omega) rfl z2 (by decide) (by decide) dX1_init_15 ?_
  have z3 := zfr_n z2 (m := 4) (by omega)
  refine n_putR kf_X1_15 (zc_at rfl (by omega) (by omega)) rfl (by omega) rfl (fun C T N h => by cases h; rfl) dX1_init_17 ?_
  have z4 := zfr_r (k := 2) (j := 1) (v := 4) z3 (by omega)
  refine z_aload_n rfl rfl dX1_init_20 ?_
  refine z_bipush (nI 24) (by decide) dX1_init_21 ?_
  refine n_newarr (t := 1) (N := 24) (m := 5) (Or.inl ⟨rfl, rfl⟩) ka_int (nI_pos (by decide)) (nI_clamp (by decide)) (by decide) (by omega) rfl z4 (by decide) (by decide) dX1_init_23 ?_
  have z5 := zfr_n z4 (m := 5) (by omega)
  refine n_putR kf_X1_18 (zc_at rfl (by omega) (by omega)) rfl (by omega) rfl (fun C T N h => by cases h; rfl) dX1_init_25 ?_
  have z6 := zfr_r (k := 2) (j := 2) (v := 5) z5 (by omega)
  refine z_aload_n rfl rfl dX1_init_28 ?_
  refine z_bipush (nI 24) (by decide) dX1_init_29 ?_
  refine n_newarr (t := 1) (N := 24) (m := 6) (Or.inl ⟨rfl, rfl⟩) ka_int (nI_pos (by decide)) (nI_clamp (by decide)) (by decide) (by omega) rfl z6 (by decide) (by decide) dX1_init_31 ?_
  have z7 := zfr_n z6 (m := 6) (by omega)
  refine n_putR kf_X1_21 (zc_at rfl (by omega) (by omega)) rfl (by omega) rfl (fun C T N h => by cases h; rfl) dX1_init_33 ?_
  have z8 := zfr_r (k := 2) (j := 3) (v := 6) z7 (by omega)
  refine z_iconst (nI 0) (by decide) dX1_init_36 ?_
  refine z_istore_n rfl (by decide) rfl dX1_init_37 ?_
  exact lp_X1_init rfl rfl _ 0 _ rfl (Nat.zero_le _) rfl z8
set_option maxRecDepth 100000 in
set_option maxHeartbeats 4000000 in
theorem lp_X2_init {E : Nat × (Nat → Int32)} {μ : zMu} {ρ : zRh} {i : Nat} (hi : i < 4) (r1 : ρ (25 + 2 * i) 1 = 26 + 2 * i) : ∀ (q : Nat) (m : Nat) (ν : zMu), 100 - m = q → m ≤ 100 → ν = zit (ib2 i) 0 m μ → zfr ν ρ (26 + 2 * i) → zV false E kX2_init (25 + 2 * i) (.inl none, zc (zit (ib2 i) 0 100 μ) ρ (26 + 2 * i)) 19 [.ref (25 + 2 * i), .int (nI m)] [] (zc ν ρ (26 + 2 * i)) 1 100 := by
  intro q
  induction q using Nat.strongRecOn with
  | ind q ih =>
    intro m ν hm hle hs hz
    refine z_iload_n rfl rfl dX2_init_19 ?_
    refine z_bipush (nI 99) (by decide) dX2_init_20 ?_
    refine z_icmp_gt 38 (by decide) dX2_init_22 (z_br (zcn (n := 99) (by omega) (m) (by omega)).2.1 (fun h1 => ?_)) (z_brn (zcn (n := 99) (by omega) (m) (by omega)).2.1 (fun h2 => ?_))
    · have hmL : m = 100 := by omega
      have he : ν = zit (ib2 i) 0 100 μ := by rw [hs, hmL]
      exact z_vret (by rw [he]) rfl (by decide) (by decide) dX2_init_38
    · refine z_aload_n rfl rfl dX2_init_25 ?_
      refine n_getR (26 + 2 * i) kf_X2_15 (zc_at (zl_cy (by omega)).1 (by omega) (by omega)) rfl r1 (by omega) dX2_init_26 ?_
      refine z_iload_n rfl rfl dX2_init_29 ?_
      refine z_iload_n rfl rfl dX2_init_30 ?_
      refine n_iast (m) (zc_at (zl_cy (by omega)).2 (by omega) (by omega)) rfl (by omega) (by decide) dX2_init_31 ?_
      have z3 := zfr_i (k := 26 + 2 * i) (j := m) (x := nI m) hz (by omega)
      refine z_iinc (nI (m + 1)) rfl (zinc _) (by decide) rfl dX2_init_32 ?_
      refine z_goto 19 (by decide) dX2_init_35 ?_
      exact ih (100 - (m + 1)) (by omega) (m + 1) (zu ν (26 + 2 * i) (m) (nI m)) rfl (by omega) (zst0 hs rfl) z3
set_option maxRecDepth 100000 in
set_option maxHeartbeats 4000000 in
theorem ct_X2_init {E : Nat × (Nat → Int32)} {μ : zMu} {ρ : zRh} {i : Nat} (hi : i < 4) (hz : zfr μ ρ (25 + 2 * i)) : zCt E kX2_init [.ref (25 + 2 * i)] (zc μ ρ (25 + 2 * i)) (.inl none, zc (i2 i μ) (zur ρ (25 + 2 * i) 1 (26 + 2 * i)) (26 + 2 * i)) := by
  refine zCt_of ko_X2_init (Nat.le_of_ble_eq_true rfl) (zas_r zas_0) ⟨by show 25 + 2 * i ≤ 26 + 2 * i; omega, fun _ => rfl⟩ (by show 0 < 25 + 2 * i; omega) ?_
  show zV false E kX2_init (25 + 2 * i) _ 0 [.ref (25 + 2 * i), .null] [] (zc μ ρ (25 + 2 * i)) 0 0
  refine z_aload_n rfl rfl dX2_init_0 ?_
  refine z_objInit kl_X2_3 kob_i kob_c (by decide) (by decide) dX2_init_1 ?_
  refine z_aload_n rfl rfl dX2_init_4 ?_
  refine z_iconst (nI 0) (by decide) dX2_init_5 ?_
  refine n_putI kf_X2_9 (zc_at (zl_cy (by omega)).1 (by omega) (by omega)) rfl dX2_init_6 ?_
  have z1 := zfr_i (k := 25 + 2 * i) (j := 0) (x := nI 0) hz (by omega)
  refine z_aload_n rfl rfl dX2_init_9 ?_
  refine z_bipush (nI 100) (by decide) dX2_init_10 ?_
  refine n_newarr (t := 1) (N := 100) (m := 26 + 2 * i) (Or.inl ⟨rfl, rfl⟩) ka_int (nI_pos (by decide)) (nI_clamp (by decide)) (by decide) (by omega) ((zl_cy (by omega)).2) z1 (by decide) (by decide) dX2_init_12 ?_
  have z2 := zfr_n z1 (m := 26 + 2 * i) (by omega)
  refine n_putR kf_X2_15 (zc_at (zl_cy (by omega)).1 (by omega) (by omega)) rfl (by omega) rfl (fun C T N h => by cases h; rfl) dX2_init_14 ?_
  have z3 := zfr_r (k := 25 + 2 * i) (j := 1) (v := 26 + 2 * i) z2 (by omega)
  refine z_iconst (nI 0) (by decide) dX2_init_17 ?_
  refine z_istore_n rfl (by decide) rfl dX2_init_18 ?_
  exact lp_X2_init hi (by simp [zur]) _ 0 _ rfl (Nat.zero_le _) rfl z3
