/-! the constructors with loops (printed by wip/whole/gen_p.py) -/
def ib1 (i : Nat) (ν : zMu) : zMu := zu (zu ν 5 i (nI (i + 1))) 6 i (nI 1000)
def ib2 (c i : Nat) (ν : zMu) : zMu := zu ν (26 + 2 * c) i (nI i)
def i2 (c : Nat) (μ : zMu) : zMu := zit (ib2 c) 0 100 (zu μ (25 + 2 * c) 0 (nI 0))
def ib8 (i : Nat) (ν : zMu) : zMu := zu (zu ν 120 i (nI (i + 1))) 121 i (nI 1000)
def ib9 (c i : Nat) (ν : zMu) : zMu := zu ν 136 (100 * c + i) (nI i)
def i8 (μ : zMu) : zMu := zit (fun c ν => zit (ib9 c) 0 100 ν) 0 4 (zit ib8 0 24 μ)
set_option maxRecDepth 100000 in
set_option maxHeartbeats 4000000 in
theorem lp_X1_init {E : Nat × (Nat → Int32)} {μ : zMu} {ρ : zRh} (r2 : ρ 2 2 = 5) (r3 : ρ 2 3 = 6) : ∀ (q : Nat) (m : Nat) (ν : zMu), 24 - m = q → m ≤ 24 → ν = zit (ib1) 0 m μ → zfr ν ρ 6 → zV false E kX1_init 2 (.inl none, zc (zit ib1 0 24 μ) ρ 6) 38 [.ref (2), .int (nI m)] [] (zc ν ρ 6) 4 96 := by
  intro q
  induction q using Nat.strongRecOn with
  | ind q ih =>
    intro m ν hm hle hs hz
    refine z_iload_n rfl rfl dX1_init_38 ?_
    refine z_bipush (nI 24) (by decide) dX1_init_39 ?_
    refine z_icmp_ge 68 (by decide) dX1_init_41 (z_br (zcn (n := 24) (by omega) (m) (by omega)).2.2 (fun h1 => ?_)) (z_brn (zcn (n := 24) (by omega) (m) (by omega)).2.2 (fun h2 => ?_))
    · have hmL : m = 24 := by omega
      have he : ν = zit (ib1) 0 24 μ := by rw [hs, hmL]
      exact z_vret (by rw [he]) rfl (by decide) (by decide) dX1_init_68
    · refine z_aload_n rfl rfl dX1_init_44 ?_
      refine n_getR (5) kf_X1_18 (zc_at rfl (by omega) (by omega)) rfl r2 (by omega) dX1_init_45 ?_
      refine z_iload_n rfl rfl dX1_init_48 ?_
      refine z_iload_n rfl rfl dX1_init_49 ?_
      refine z_iconst (nI 1) (by decide) dX1_init_50 ?_
      refine m_addN dX1_init_51 ?_
      refine n_iast (m) (zc_at rfl (by omega) (by omega)) rfl (by omega) (by decide) dX1_init_52 ?_
      have z3 := zfr_i (k := 5) (j := m) (x := nI (m + 1)) hz (by omega)
      refine z_aload_n rfl rfl dX1_init_53 ?_
      refine n_getR (6) kf_X1_21 (zc_at rfl (by omega) (by omega)) rfl r3 (by omega) dX1_init_54 ?_
      refine z_iload_n rfl rfl dX1_init_57 ?_
      refine z_sipush (nI 1000) (by decide) dX1_init_58 ?_
      refine n_iast (m) (zc_at rfl (by omega) (by omega)) rfl (by omega) (by decide) dX1_init_61 ?_
      have z4 := zfr_i (k := 6) (j := m) (x := nI 1000) z3 (by omega)
      refine z_iinc (nI (m + 1)) rfl (zinc _) (by decide) rfl dX1_init_62 ?_
      refine z_goto 38 (by decide) dX1_init_65 ?_
      exact ih (24 - (m + 1)) (by omega) (m + 1) (zu (zu ν (5) (m) (nI (m + 1))) (6) (m) (nI 1000)) rfl (by omega) (zst0 hs rfl) z4
set_option maxRecDepth 100000 in
set_option maxHeartbeats 4000000 in
theorem ct_X1_init {E : Nat × (Nat → Int32)} {μ : zMu} {ρ : zRh}  (hz : zfr μ ρ (2)) : zCt E kX1_init [.ref (2)] (zc μ ρ (2)) (.inl none, zc (zit ib1 0 24 μ) (zur (zur (zur (zur ρ (2) 0 (3)) (2) 1 (4)) (2) 2 (5)) (2) 3 (6)) (6)) := by
  refine zCt_of ko_X1_init (Nat.le_of_ble_eq_true rfl) (zas_r zas_0) ⟨by show 2 ≤ 6; omega, fun _ => rfl⟩ (by show 0 < 2; omega) ?_
  show zV false E kX1_init (2) _ 0 [.ref (2), .null] [] (zc μ ρ (2)) 0 0
  refine z_aload_n rfl rfl dX1_init_0 ?_
  refine z_objInit kl_X1_3 kob_i kob_c (by decide) (by decide) dX1_init_1 ?_
  refine z_aload_n rfl rfl dX1_init_4 ?_
  refine z_bipush (nI 24) (by decide) dX1_init_5 ?_
  refine n_newarr (t := 1) (N := 24) (m := 3) (Or.inl ⟨rfl, rfl⟩) ka_int (nI_pos (by decide)) (nI_clamp (by decide)) (by decide) (by omega) rfl hz (by decide) (by decide) dX1_init_7 ?_
  have z1 := zfr_n hz (m := 3) (by omega)
  refine n_putR kf_X1_9 (zc_at rfl (by omega) (by omega)) rfl (by omega) rfl (fun C T N h => by cases h; rfl) dX1_init_9 ?_
  have z2 := zfr_r (k := 2) (j := 0) (v := 3) z1 (by omega)
  refine z_aload_n rfl rfl dX1_init_12 ?_
  refine z_bipush (nI 24) (by decide) dX1_init_13 ?_
  refine n_newarr (t := 1) (N := 24) (m := 4) (Or.inl ⟨rfl, rfl⟩) ka_int (nI_pos (by decide)) (nI_clamp (by decide)) (by decide) (by omega) rfl z2 (by decide) (by decide) dX1_init_15 ?_
  have z3 := zfr_n z2 (m := 4) (by omega)
  refine n_putR kf_X1_15 (zc_at rfl (by omega) (by omega)) rfl (by omega) rfl (fun C T N h => by cases h; rfl) dX1_init_17 ?_
  have z4 := zfr_r (k := 2) (j := 1) (v := 4) z3 (by omega)
  refine z_aload_n rfl rfl dX1_init_20 ?_
  refine z_bipush (nI 24) (by decide) dX1_init_21 ?_
  refine n_newarr (t := 1) (N := 24) (m := 5) (Or.inl ⟨rfl, rfl⟩) ka_int (nI_pos (by decide)) (nI_clamp (by decide)) (by decide) (by omega) rfl z4 (by decide) (by decide) dX1_init_23 ?_
  have z5 := zfr_n z4 (m := 5) (by omega)
  refine n_putR kf_X1_18 (zc_at rfl (by omega) (by omega)) rfl (by omega) rfl (fun C T N h => by cases h; rfl) dX1_init_25 ?_
  have z6 := zfr_r (k := 2) (j := 2) (v := 5) z5 (by omega)
  refine z_aload_n rfl rfl dX1_init_28 ?_
  refine z_bipush (nI 24) (by decide) dX1_init_29 ?_
  refine n_newarr (t := 1) (N := 24) (m := 6) (Or.inl ⟨rfl, rfl⟩) ka_int (nI_pos (by decide)) (nI_clamp (by decide)) (by decide) (by omega) rfl z6 (by decide) (by decide) dX1_init_31 ?_
  have z7 := zfr_n z6 (m := 6) (by omega)
  refine n_putR kf_X1_21 (zc_at rfl (by omega) (by omega)) rfl (by omega) rfl (fun C T N h => by cases h; rfl) dX1_init_33 ?_
  have z8 := zfr_r (k := 2) (j := 3) (v := 6) z7 (by omega)
  refine z_iconst (nI 0) (by decide) dX1_init_36 ?_
  refine z_istore_n rfl (by decide) rfl dX1_init_37 ?_
  exact lp_X1_init rfl rfl _ 0 _ rfl (Nat.zero_le _) rfl z8
set_option maxRecDepth 100000 in
set_option maxHeartbeats 4000000 in
theorem lp_X2_init {E : Nat × (Nat → Int32)} {μ : zMu} {ρ : zRh} {i : Nat} (hi : i < 4) (r1 : ρ (25 + 2 * i) 1 = 26 + 2 * i) : ∀ (q : Nat) (m : Nat) (ν : zMu), 100 - m = q → m ≤ 100 → ν = zit (ib2 i) 0 m μ → zfr ν ρ (26 + 2 * i) → zV false E kX2_init (25 + 2 * i) (.inl none, zc (zit (ib2 i) 0 100 μ) ρ (26 + 2 * i)) 19 [.ref (25 + 2 * i), .int (nI m)] [] (zc ν ρ (26 + 2 * i)) 1 100 := by
  intro q
  induction q using Nat.strongRecOn with
  | ind q ih =>
    intro m ν hm hle hs hz
    refine z_iload_n rfl rfl dX2_init_19 ?_
    refine z_bipush (nI 99) (by decide) dX2_init_20 ?_
    refine z_icmp_gt 38 (by decide) dX2_init_22 (z_br (zcn (n := 99) (by omega) (m) (by omega)).2.1 (fun h1 => ?_)) (z_brn (zcn (n := 99) (by omega) (m) (by omega)).2.1 (fun h2 => ?_))
    · have hmL : m = 100 := by omega
      have he : ν = zit (ib2 i) 0 100 μ := by rw [hs, hmL]
      exact z_vret (by rw [he]) rfl (by decide) (by decide) dX2_init_38
    · refine z_aload_n rfl rfl dX2_init_25 ?_
      refine n_getR (26 + 2 * i) kf_X2_15 (zc_at (zl_cy (by omega)).1 (by omega) (by omega)) rfl r1 (by omega) dX2_init_26 ?_
      refine z_iload_n rfl rfl dX2_init_29 ?_
      refine z_iload_n rfl rfl dX2_init_30 ?_
      refine n_iast (m) (zc_at (zl_cy (by omega)).2 (by omega) (by omega)) rfl (by omega) (by decide) dX2_init_31 ?_
      have z3 := zfr_i (k := 26 + 2 * i) (j := m) (x := nI m) hz (by omega)
      refine z_iinc (nI (m + 1)) rfl (zinc _) (by decide) rfl dX2_init_32 ?_
      refine z_goto 19 (by decide) dX2_init_35 ?_
      exact ih (100 - (m + 1)) (by omega) (m + 1) (zu ν (26 + 2 * i) (m) (nI m)) rfl (by omega) (zst0 hs rfl) z3
set_option maxRecDepth 100000 in
set_option maxHeartbeats 4000000 in
theorem ct_X2_init {E : Nat × (Nat → Int32)} {μ : zMu} {ρ : zRh} {i : Nat} (hi : i < 4) (hz : zfr μ ρ (25 + 2 * i)) : zCt E kX2_init [.ref (25 + 2 * i)] (zc μ ρ (25 + 2 * i)) (.inl none, zc (i2 i μ) (zur ρ (25 + 2 * i) 1 (26 + 2 * i)) (26 + 2 * i)) := by
  refine zCt_of ko_X2_init (Nat.le_of_ble_eq_true rfl) (zas_r zas_0) ⟨by show 25 + 2 * i ≤ 26 + 2 * i; omega, fun _ => rfl⟩ (by show 0 < 25 + 2 * i; omega) ?_
  show zV false E kX2_init (25 + 2 * i) _ 0 [.ref (25 + 2 * i), .null] [] (zc μ ρ (25 + 2 * i)) 0 0
  refine z_aload_n rfl rfl dX2_init_0 ?_
  refine z_objInit kl_X2_3 kob_i kob_c (by decide) (by decide) dX2_init_1 ?_
  refine z_aload_n rfl rfl dX2_init_4 ?_
  refine z_iconst (nI 0) (by decide) dX2_init_5 ?_
  refine n_putI kf_X2_9 (zc_at (zl_cy (by omega)).1 (by omega) (by omega)) rfl dX2_init_6 ?_
  have z1 := zfr_i (k := 25 + 2 * i) (j := 0) (x := nI 0) hz (by omega)
  refine z_aload_n rfl rfl dX2_init_9 ?_
  refine z_bipush (nI 100) (by decide) dX2_init_10 ?_
  refine n_newarr (t := 1) (N := 100) (m := 26 + 2 * i) (Or.inl ⟨rfl, rfl⟩) ka_int (nI_pos (by decide)) (nI_clamp (by decide)) (by decide) (by omega) ((zl_cy (by omega)).2) z1 (by decide) (by decide) dX2_init_12 ?_
  have z2 := zfr_n z1 (m := 26 + 2 * i) (by omega)
  refine n_putR kf_X2_15 (zc_at (zl_cy (by omega)).1 (by omega) (by omega)) rfl (by omega) rfl (fun C T N h => by cases h; rfl) dX2_init_14 ?_
  have z3 := zfr_r (k := 25 + 2 * i) (j := 1) (v := 26 + 2 * i) z2 (by omega)
  refine z_iconst (nI 0) (by decide) dX2_init_17 ?_
  refine z_istore_n rfl (by decide) rfl dX2_init_18 ?_
  exact lp_X2_init hi (by simp [zur]) _ 0 _ rfl (Nat.zero_le _) rfl z3
set_option maxRecDepth 100000 in
set_option maxHeartbeats 4000000 in
theorem lp1_X8_init {E : Nat × (Nat → Int32)} {μ : zMu} {ρ : zRh} (r3 : ρ 117 3 = 120) (r4 : ρ 117 4 = 121) {O : zO} (kk : zfr (zit (ib8) 0 24 μ) ρ 144 → zV false E kX8_init 117 O 258 [.ref (117), .null, .null] [] (zc (zit (ib8) 0 24 μ) ρ 144) 27 2636) : ∀ (q : Nat) (m : Nat) (ν : zMu), 24 - m = q → m ≤ 24 → ν = zit (ib8) 0 m μ → zfr ν ρ 144 → zV false E kX8_init 117 O 228 [.ref (117), .int (nI m), .null] [] (zc ν ρ 144) 27 2636 := by
  intro q
  induction q using Nat.strongRecOn with
  | ind q ih =>
    intro m ν hm hle hs hz
    refine z_iload_n rfl rfl dX8_init_228 ?_
    refine z_bipush (nI 24) (by decide) dX8_init_229 ?_
    refine z_icmp_ge 258 (by decide) dX8_init_231 (z_br (zcn (n := 24) (by omega) (m) (by omega)).2.2 (fun h1 => ?_)) (z_brn (zcn (n := 24) (by omega) (m) (by omega)).2.2 (fun h2 => ?_))
    · have hmL : m = 24 := by omega
      have he : ν = zit (ib8) 0 24 μ := by rw [hs, hmL]
      rw [← he] at kk
      refine z_fgt [.ref (117), .null, .null] ⟨Or.inl rfl, ⟨Or.inr rfl, ⟨Or.inl rfl, trivial⟩⟩⟩ ?_
      exact kk hz
    · refine z_aload_n rfl rfl dX8_init_234 ?_
      refine n_getR (120) kf_X8_16 (zc_at rfl (by omega) (by omega)) rfl r3 (by omega) dX8_init_235 ?_
      refine z_iload_n rfl rfl dX8_init_238 ?_
      refine z_iload_n rfl rfl dX8_init_239 ?_
      refine z_iconst (nI 1) (by decide) dX8_init_240 ?_
      refine m_addN dX8_init_241 ?_
      refine n_iast (m) (zc_at rfl (by omega) (by omega)) rfl (by omega) (by decide) dX8_init_242 ?_
      have z3 := zfr_i (k := 120) (j := m) (x := nI (m + 1)) hz (by omega)
      refine z_aload_n rfl rfl dX8_init_243 ?_
      refine n_getR (121) kf_X8_19 (zc_at rfl (by omega) (by omega)) rfl r4 (by omega) dX8_init_244 ?_
      refine z_iload_n rfl rfl dX8_init_247 ?_
      refine z_sipush (nI 1000) (by decide) dX8_init_248 ?_
      refine n_iast (m) (zc_at rfl (by omega) (by omega)) rfl (by omega) (by decide) dX8_init_251 ?_
      have z4 := zfr_i (k := 121) (j := m) (x := nI 1000) z3 (by omega)
      refine z_iinc (nI (m + 1)) rfl (zinc _) (by decide) rfl dX8_init_252 ?_
      refine z_goto 228 (by decide) dX8_init_255 ?_
      exact ih (24 - (m + 1)) (by omega) (m + 1) (zu (zu ν (120) (m) (nI (m + 1))) (121) (m) (nI 1000)) rfl (by omega) (zst0 hs rfl) z4
set_option maxRecDepth 100000 in
set_option maxHeartbeats 4000000 in
theorem lp3_X8_init {E : Nat × (Nat → Int32)} {μ : zMu} {ρ : zRh} {c : Nat} (hc : c < 4) (r22 : ρ 117 22 = 136) {O : zO} (kk : zfr (zit (ib9 c) 0 100 μ) ρ 144 → zV false E kX8_init 117 O 291 [.ref (117), .int (nI c), .null] [] (zc (zit (ib9 c) 0 100 μ) ρ 144) 27 2636) : ∀ (q : Nat) (m : Nat) (ν : zMu), 100 - m = q → m ≤ 100 → ν = zit (ib9 c) 0 m μ → zfr ν ρ 144 → zV false E kX8_init 117 O 267 [.ref (117), .int (nI c), .int (nI m)] [] (zc ν ρ 144) 27 2636 := by
  intro q
  induction q using Nat.strongRecOn with
  | ind q ih =>
    intro m ν hm hle hs hz
    refine z_iload_n rfl rfl dX8_init_267 ?_
    refine z_bipush (nI 100) (by decide) dX8_init_268 ?_
    refine z_icmp_ge 291 (by decide) dX8_init_270 (z_br (zcn (n := 100) (by omega) (m) (by omega)).2.2 (fun h1 => ?_)) (z_brn (zcn (n := 100) (by omega) (m) (by omega)).2.2 (fun h2 => ?_))
    · have hmL : m = 100 := by omega
      have he : ν = zit (ib9 c) 0 100 μ := by rw [hs, hmL]
      rw [← he] at kk
      refine z_fgt [.ref (117), .int (nI c), .null] ⟨Or.inl rfl, ⟨Or.inl rfl, ⟨Or.inr rfl, trivial⟩⟩⟩ ?_
      exact kk hz
    · refine z_aload_n rfl rfl dX8_init_273 ?_
      refine n_getR (136) kf_X8_65 (zc_at rfl (by omega) (by omega)) rfl r22 (by omega) dX8_init_274 ?_
      refine z_bipush (nI 100) (by decide) dX8_init_277 ?_
      refine z_iload_n rfl rfl dX8_init_279 ?_
      refine m_mulN dX8_init_280 ?_
      refine z_iload_n rfl rfl dX8_init_281 ?_
      refine m_addN dX8_init_282 ?_
      refine z_iload_n rfl rfl dX8_init_283 ?_
      refine n_iast ((100 * c) + m) (zc_at rfl (by omega) (by omega)) rfl (by omega) (by decide) dX8_init_284 ?_
      have z3 := zfr_i (k := 136) (j := (100 * c) + m) (x := nI m) hz (by omega)
      refine z_iinc (nI (m + 1)) rfl (zinc _) (by decide) rfl dX8_init_285 ?_
      refine z_goto 267 (by decide) dX8_init_288 ?_
      exact ih (100 - (m + 1)) (by omega) (m + 1) (zu ν (136) ((100 * c) + m) (nI m)) rfl (by omega) (zst0 hs rfl) z3
set_option maxRecDepth 100000 in
set_option maxHeartbeats 4000000 in
theorem lp2_X8_init {E : Nat × (Nat → Int32)} {μ : zMu} {ρ : zRh} (r22 : ρ 117 22 = 136) : ∀ (q : Nat) (m : Nat) (ν : zMu), 4 - m = q → m ≤ 4 → ν = zit (fun c ν => zit (ib9 c) 0 100 ν) 0 m μ → zfr ν ρ 144 → zV false E kX8_init 117 (.inl none, zc (zit (fun c ν => zit (ib9 c) 0 100 ν) 0 4 μ) ρ 144) 260 [.ref (117), .int (nI m), .null] [] (zc ν ρ 144) 27 2636 := by
  intro q
  induction q using Nat.strongRecOn with
  | ind q ih =>
    intro m ν hm hle hs hz
    refine z_iload_n rfl rfl dX8_init_260 ?_
    refine z_iconst (nI 4) (by decide) dX8_init_261 ?_
    refine z_icmp_ge 297 (by decide) dX8_init_262 (z_br (zcn (n := 4) (by omega) (m) (by omega)).2.2 (fun h1 => ?_)) (z_brn (zcn (n := 4) (by omega) (m) (by omega)).2.2 (fun h2 => ?_))
    · have hmL : m = 4 := by omega
      have he : ν = zit (fun c ν => zit (ib9 c) 0 100 ν) 0 4 μ := by rw [hs, hmL]
      exact z_vret (by rw [he]) rfl (by decide) (by decide) dX8_init_297
    · refine z_iconst (nI 0) (by decide) dX8_init_265 ?_
      refine z_istore_n rfl (by decide) rfl dX8_init_266 ?_
      refine lp3_X8_init (c := m) (μ := ν) (by omega) r22 (fun hz2 => ?_) _ 0 _ rfl (Nat.zero_le _) rfl hz
      refine z_iinc (nI (m + 1)) rfl (zinc _) (by decide) rfl dX8_init_291 ?_
      refine z_goto 260 (by decide) dX8_init_294 ?_
      exact ih (4 - (m + 1)) (by omega) (m + 1) (zit (ib9 m) 0 100 ν) rfl (by omega) (zst0 hs rfl) hz2
set_option maxRecDepth 100000 in
set_option maxHeartbeats 4000000 in
theorem ct_X8_init {E : Nat × (Nat → Int32)} {μ : zMu} {ρ : zRh}  (hz : zfr μ ρ (117)) : zCt E kX8_init [.ref (117)] (zc μ ρ (117)) (.inl none, zc (i8 μ) (zur (zur (zur (zur (zur (zur (zur (zur (zur (zur (zur (zur (zur (zur (zur (zur (zur (zur (zur (zur (zur (zur (zur (zur (zur (zur (zur ρ (117) 1 (118)) (117) 2 (119)) (117) 3 (120)) (117) 4 (121)) (117) 6 (122)) (117) 7 (123)) (117) 9 (124)) (117) 10 (125)) (117) 11 (126)) (117) 12 (127)) (117) 14 (128)) (117) 15 (129)) (117) 16 (130)) (117) 17 (131)) (117) 18 (132)) (117) 19 (133)) (117) 20 (134)) (117) 21 (135)) (117) 22 (136)) (117) 24 (137)) (117) 25 (138)) (117) 26 (139)) (117) 27 (140)) (117) 28 (141)) (117) 29 (142)) (117) 30 (143)) (117) 31 (144)) (144)) := by
  refine zCt_of ko_X8_init (Nat.le_of_ble_eq_true rfl) (zas_r zas_0) ⟨by show 117 ≤ 144; omega, fun _ => rfl⟩ (by show 0 < 117; omega) ?_
  show zV false E kX8_init (117) _ 0 [.ref (117), .null, .null] [] (zc μ ρ (117)) 0 0
  refine z_aload_n rfl rfl dX8_init_0 ?_
  refine z_objInit kl_X8_1 kob_i kob_c (by decide) (by decide) dX8_init_1 ?_
  refine z_aload_n rfl rfl dX8_init_4 ?_
  refine z_bipush (nI 24) (by decide) dX8_init_5 ?_
  refine n_newarr (t := 1) (N := 24) (m := 118) (Or.inl ⟨rfl, rfl⟩) ka_int (nI_pos (by decide)) (nI_clamp (by decide)) (by decide) (by omega) rfl hz (by decide) (by decide) dX8_init_7 ?_
  have z1 := zfr_n hz (m := 118) (by omega)
  refine n_putR kf_X8_7 (zc_at rfl (by omega) (by omega)) rfl (by omega) rfl (fun C T N h => by cases h; rfl) dX8_init_9 ?_
  have z2 := zfr_r (k := 117) (j := 1) (v := 118) z1 (by omega)
  refine z_aload_n rfl rfl dX8_init_12 ?_
  refine z_bipush (nI 24) (by decide) dX8_init_13 ?_
  refine n_newarr (t := 1) (N := 24) (m := 119) (Or.inl ⟨rfl, rfl⟩) ka_int (nI_pos (by decide)) (nI_clamp (by decide)) (by decide) (by omega) rfl z2 (by decide) (by decide) dX8_init_15 ?_
  have z3 := zfr_n z2 (m := 119) (by omega)
  refine n_putR kf_X8_13 (zc_at rfl (by omega) (by omega)) rfl (by omega) rfl (fun C T N h => by cases h; rfl) dX8_init_17 ?_
  have z4 := zfr_r (k := 117) (j := 2) (v := 119) z3 (by omega)
  refine z_aload_n rfl rfl dX8_init_20 ?_
  refine z_bipush (nI 24) (by decide) dX8_init_21 ?_
  refine n_newarr (t := 1) (N := 24) (m := 120) (Or.inl ⟨rfl, rfl⟩) ka_int (nI_pos (by decide)) (nI_clamp (by decide)) (by decide) (by omega) rfl z4 (by decide) (by decide) dX8_init_23 ?_
  have z5 := zfr_n z4 (m := 120) (by omega)
  refine n_putR kf_X8_16 (zc_at rfl (by omega) (by omega)) rfl (by omega) rfl (fun C T N h => by cases h; rfl) dX8_init_25 ?_
  have z6 := zfr_r (k := 117) (j := 3) (v := 120) z5 (by omega)
  refine z_aload_n rfl rfl dX8_init_28 ?_
  refine z_bipush (nI 24) (by decide) dX8_init_29 ?_
  refine n_newarr (t := 1) (N := 24) (m := 121) (Or.inl ⟨rfl, rfl⟩) ka_int (nI_pos (by decide)) (nI_clamp (by decide)) (by decide) (by omega) rfl z6 (by decide) (by decide) dX8_init_31 ?_
  have z7 := zfr_n z6 (m := 121) (by omega)
  refine n_putR kf_X8_19 (zc_at rfl (by omega) (by omega)) rfl (by omega) rfl (fun C T N h => by cases h; rfl) dX8_init_33 ?_
  have z8 := zfr_r (k := 117) (j := 4) (v := 121) z7 (by omega)
  refine z_aload_n rfl rfl dX8_init_36 ?_
  refine z_bipush (nI 6) (by decide) dX8_init_37 ?_
  refine n_newarr (t := 1) (N := 6) (m := 122) (Or.inl ⟨rfl, rfl⟩) ka_int (nI_pos (by decide)) (nI_clamp (by decide)) (by decide) (by omega) rfl z8 (by decide) (by decide) dX8_init_39 ?_
  have z9 := zfr_n z8 (m := 122) (by omega)
  refine n_putR kf_X8_22 (zc_at rfl (by omega) (by omega)) rfl (by omega) rfl (fun C T N h => by cases h; rfl) dX8_init_41 ?_
  have z10 := zfr_r (k := 117) (j := 6) (v := 122) z9 (by omega)
  refine z_aload_n rfl rfl dX8_init_44 ?_
  refine z_bipush (nI 6) (by decide) dX8_init_45 ?_
  refine n_newarr (t := 1) (N := 6) (m := 123) (Or.inl ⟨rfl, rfl⟩) ka_int (nI_pos (by decide)) (nI_clamp (by decide)) (by decide) (by omega) rfl z10 (by decide) (by decide) dX8_init_47 ?_
  have z11 := zfr_n z10 (m := 123) (by omega)
  refine n_putR kf_X8_25 (zc_at rfl (by omega) (by omega)) rfl (by omega) rfl (fun C T N h => by cases h; rfl) dX8_init_49 ?_
  have z12 := zfr_r (k := 117) (j := 7) (v := 123) z11 (by omega)
  refine z_aload_n rfl rfl dX8_init_52 ?_
  refine z_bipush (nI 60) (by decide) dX8_init_53 ?_
  refine n_newarr (t := 1) (N := 60) (m := 124) (Or.inl ⟨rfl, rfl⟩) ka_int (nI_pos (by decide)) (nI_clamp (by decide)) (by decide) (by omega) rfl z12 (by decide) (by decide) dX8_init_55 ?_
  have z13 := zfr_n z12 (m := 124) (by omega)
  refine n_putR kf_X8_28 (zc_at rfl (by omega) (by omega)) rfl (by omega) rfl (fun C T N h => by cases h; rfl) dX8_init_57 ?_
  have z14 := zfr_r (k := 117) (j := 9) (v := 124) z13 (by omega)
  refine z_aload_n rfl rfl dX8_init_60 ?_
  refine z_bipush (nI 60) (by decide) dX8_init_61 ?_
  refine n_newarr (t := 1) (N := 60) (m := 125) (Or.inl ⟨rfl, rfl⟩) ka_int (nI_pos (by decide)) (nI_clamp (by decide)) (by decide) (by omega) rfl z14 (by decide) (by decide) dX8_init_63 ?_
  have z15 := zfr_n z14 (m := 125) (by omega)
  refine n_putR kf_X8_31 (zc_at rfl (by omega) (by omega)) rfl (by omega) rfl (fun C T N h => by cases h; rfl) dX8_init_65 ?_
  have z16 := zfr_r (k := 117) (j := 10) (v := 125) z15 (by omega)
  refine z_aload_n rfl rfl dX8_init_68 ?_
  refine z_bipush (nI 60) (by decide) dX8_init_69 ?_
  refine n_newarr (t := 1) (N := 60) (m := 126) (Or.inl ⟨rfl, rfl⟩) ka_int (nI_pos (by decide)) (nI_clamp (by decide)) (by decide) (by omega) rfl z16 (by decide) (by decide) dX8_init_71 ?_
  have z17 := zfr_n z16 (m := 126) (by omega)
  refine n_putR kf_X8_34 (zc_at rfl (by omega) (by omega)) rfl (by omega) rfl (fun C T N h => by cases h; rfl) dX8_init_73 ?_
  have z18 := zfr_r (k := 117) (j := 11) (v := 126) z17 (by omega)
  refine z_aload_n rfl rfl dX8_init_76 ?_
  refine z_bipush (nI 60) (by decide) dX8_init_77 ?_
  refine n_newarr (t := 1) (N := 60) (m := 127) (Or.inl ⟨rfl, rfl⟩) ka_int (nI_pos (by decide)) (nI_clamp (by decide)) (by decide) (by omega) rfl z18 (by decide) (by decide) dX8_init_79 ?_
  have z19 := zfr_n z18 (m := 127) (by omega)
  refine n_putR kf_X8_37 (zc_at rfl (by omega) (by omega)) rfl (by omega) rfl (fun C T N h => by cases h; rfl) dX8_init_81 ?_
  have z20 := zfr_r (k := 117) (j := 12) (v := 127) z19 (by omega)
  refine z_aload_n rfl rfl dX8_init_84 ?_
  refine z_bipush (nI 12) (by decide) dX8_init_85 ?_
  refine n_newarr (t := 1) (N := 12) (m := 128) (Or.inl ⟨rfl, rfl⟩) ka_int (nI_pos (by decide)) (nI_clamp (by decide)) (by decide) (by omega) rfl z20 (by decide) (by decide) dX8_init_87 ?_
  have z21 := zfr_n z20 (m := 128) (by omega)
  refine n_putR kf_X8_40 (zc_at rfl (by omega) (by omega)) rfl (by omega) rfl (fun C T N h => by cases h; rfl) dX8_init_89 ?_
  have z22 := zfr_r (k := 117) (j := 14) (v := 128) z21 (by omega)
  refine z_aload_n rfl rfl dX8_init_92 ?_
  refine z_bipush (nI 36) (by decide) dX8_init_93 ?_
  refine n_newarr (t := 1) (N := 36) (m := 129) (Or.inl ⟨rfl, rfl⟩) ka_int (nI_pos (by decide)) (nI_clamp (by decide)) (by decide) (by omega) rfl z22 (by decide) (by decide) dX8_init_95 ?_
  have z23 := zfr_n z22 (m := 129) (by omega)
  refine n_putR kf_X8_43 (zc_at rfl (by omega) (by omega)) rfl (by omega) rfl (fun C T N h => by cases h; rfl) dX8_init_97 ?_
  have z24 := zfr_r (k := 117) (j := 15) (v := 129) z23 (by omega)
  refine z_aload_n rfl rfl dX8_init_100 ?_
  refine z_sipush (nI 288) (by decide) dX8_init_101 ?_
  refine n_newarr (t := 2) (N := 288) (m := 130) (Or.inr (Or.inl ⟨rfl, rfl⟩)) ka_boolean (nI_pos (by decide)) (nI_clamp (by decide)) (by decide) (by omega) rfl z24 (by decide) (by decide) dX8_init_104 ?_
  have z25 := zfr_n z24 (m := 130) (by omega)
  refine n_putR kf_X8_46 (zc_at rfl (by omega) (by omega)) rfl (by omega) rfl (fun C T N h => by cases h; rfl) dX8_init_106 ?_
  have z26 := zfr_r (k := 117) (j := 16) (v := 130) z25 (by omega)
  refine z_aload_n rfl rfl dX8_init_109 ?_
  refine z_sipush (nI 288) (by decide) dX8_init_110 ?_
  refine n_newarr (t := 1) (N := 288) (m := 131) (Or.inl ⟨rfl, rfl⟩) ka_int (nI_pos (by decide)) (nI_clamp (by decide)) (by decide) (by omega) rfl z26 (by decide) (by decide) dX8_init_113 ?_
  have z27 := zfr_n z26 (m := 131) (by omega)
  refine n_putR kf_X8_50 (zc_at rfl (by omega) (by omega)) rfl (by omega) rfl (fun C T N h => by cases h; rfl) dX8_init_115 ?_
  have z28 := zfr_r (k := 117) (j := 17) (v := 131) z27 (by omega)
  refine z_aload_n rfl rfl dX8_init_118 ?_
  refine z_sipush (nI 288) (by decide) dX8_init_119 ?_
  refine n_newarr (t := 1) (N := 288) (m := 132) (Or.inl ⟨rfl, rfl⟩) ka_int (nI_pos (by decide)) (nI_clamp (by decide)) (by decide) (by omega) rfl z28 (by decide) (by decide) dX8_init_122 ?_
  have z29 := zfr_n z28 (m := 132) (by omega)
  refine n_putR kf_X8_53 (zc_at rfl (by omega) (by omega)) rfl (by omega) rfl (fun C T N h => by cases h; rfl) dX8_init_124 ?_
  have z30 := zfr_r (k := 117) (j := 18) (v := 132) z29 (by omega)
  refine z_aload_n rfl rfl dX8_init_127 ?_
  refine z_sipush (nI 288) (by decide) dX8_init_128 ?_
  refine n_newarr (t := 1) (N := 288) (m := 133) (Or.inl ⟨rfl, rfl⟩) ka_int (nI_pos (by decide)) (nI_clamp (by decide)) (by decide) (by omega) rfl z30 (by decide) (by decide) dX8_init_131 ?_
  have z31 := zfr_n z30 (m := 133) (by omega)
  refine n_putR kf_X8_56 (zc_at rfl (by omega) (by omega)) rfl (by omega) rfl (fun C T N h => by cases h; rfl) dX8_init_133 ?_
  have z32 := zfr_r (k := 117) (j := 19) (v := 133) z31 (by omega)
  refine z_aload_n rfl rfl dX8_init_136 ?_
  refine z_sipush (nI 288) (by decide) dX8_init_137 ?_
  refine n_newarr (t := 1) (N := 288) (m := 134) (Or.inl ⟨rfl, rfl⟩) ka_int (nI_pos (by decide)) (nI_clamp (by decide)) (by decide) (by omega) rfl z32 (by decide) (by decide) dX8_init_140 ?_
  have z33 := zfr_n z32 (m := 134) (by omega)
  refine n_putR kf_X8_59 (zc_at rfl (by omega) (by omega)) rfl (by omega) rfl (fun C T N h => by cases h; rfl) dX8_init_142 ?_
  have z34 := zfr_r (k := 117) (j := 20) (v := 134) z33 (by omega)
  refine z_aload_n rfl rfl dX8_init_145 ?_
  refine z_iconst (nI 4) (by decide) dX8_init_146 ?_
  refine n_newarr (t := 1) (N := 4) (m := 135) (Or.inl ⟨rfl, rfl⟩) ka_int (nI_pos (by decide)) (nI_clamp (by decide)) (by decide) (by omega) rfl z34 (by decide) (by decide) dX8_init_147 ?_
  have z35 := zfr_n z34 (m := 135) (by omega)
  refine n_putR kf_X8_62 (zc_at rfl (by omega) (by omega)) rfl (by omega) rfl (fun C T N h => by cases h; rfl) dX8_init_149 ?_
  have z36 := zfr_r (k := 117) (j := 21) (v := 135) z35 (by omega)
  refine z_aload_n rfl rfl dX8_init_152 ?_
  refine z_sipush (nI 400) (by decide) dX8_init_153 ?_
  refine n_newarr (t := 1) (N := 400) (m := 136) (Or.inl ⟨rfl, rfl⟩) ka_int (nI_pos (by decide)) (nI_clamp (by decide)) (by decide) (by omega) rfl z36 (by decide) (by decide) dX8_init_156 ?_
  have z37 := zfr_n z36 (m := 136) (by omega)
  refine n_putR kf_X8_65 (zc_at rfl (by omega) (by omega)) rfl (by omega) rfl (fun C T N h => by cases h; rfl) dX8_init_158 ?_
  have z38 := zfr_r (k := 117) (j := 22) (v := 136) z37 (by omega)
  refine z_aload_n rfl rfl dX8_init_161 ?_
  refine z_bipush (nI 20) (by decide) dX8_init_162 ?_
  refine n_newarr (t := 1) (N := 20) (m := 137) (Or.inl ⟨rfl, rfl⟩) ka_int (nI_pos (by decide)) (nI_clamp (by decide)) (by decide) (by omega) rfl z38 (by decide) (by decide) dX8_init_164 ?_
  have z39 := zfr_n z38 (m := 137) (by omega)
  refine n_putR kf_X8_68 (zc_at rfl (by omega) (by omega)) rfl (by omega) rfl (fun C T N h => by cases h; rfl) dX8_init_166 ?_
  have z40 := zfr_r (k := 117) (j := 24) (v := 137) z39 (by omega)
  refine z_aload_n rfl rfl dX8_init_169 ?_
  refine z_bipush (nI 20) (by decide) dX8_init_170 ?_
  refine n_newarr (t := 1) (N := 20) (m := 138) (Or.inl ⟨rfl, rfl⟩) ka_int (nI_pos (by decide)) (nI_clamp (by decide)) (by decide) (by omega) rfl z40 (by decide) (by decide) dX8_init_172 ?_
  have z41 := zfr_n z40 (m := 138) (by omega)
  refine n_putR kf_X8_71 (zc_at rfl (by omega) (by omega)) rfl (by omega) rfl (fun C T N h => by cases h; rfl) dX8_init_174 ?_
  have z42 := zfr_r (k := 117) (j := 25) (v := 138) z41 (by omega)
  refine z_aload_n rfl rfl dX8_init_177 ?_
  refine z_bipush (nI 20) (by decide) dX8_init_178 ?_
  refine n_newarr (t := 1) (N := 20) (m := 139) (Or.inl ⟨rfl, rfl⟩) ka_int (nI_pos (by decide)) (nI_clamp (by decide)) (by decide) (by omega) rfl z42 (by decide) (by decide) dX8_init_180 ?_
  have z43 := zfr_n z42 (m := 139) (by omega)
  refine n_putR kf_X8_74 (zc_at rfl (by omega) (by omega)) rfl (by omega) rfl (fun C T N h => by cases h; rfl) dX8_init_182 ?_
  have z44 := zfr_r (k := 117) (j := 26) (v := 139) z43 (by omega)
  refine z_aload_n rfl rfl dX8_init_185 ?_
  refine z_sipush (nI 240) (by decide) dX8_init_186 ?_
  refine n_newarr (t := 2) (N := 240) (m := 140) (Or.inr (Or.inl ⟨rfl, rfl⟩)) ka_boolean (nI_pos (by decide)) (nI_clamp (by decide)) (by decide) (by omega) rfl z44 (by decide) (by decide) dX8_init_189 ?_
  have z45 := zfr_n z44 (m := 140) (by omega)
  refine n_putR kf_X8_77 (zc_at rfl (by omega) (by omega)) rfl (by omega) rfl (fun C T N h => by cases h; rfl) dX8_init_191 ?_
  have z46 := zfr_r (k := 117) (j := 27) (v := 140) z45 (by omega)
  refine z_aload_n rfl rfl dX8_init_194 ?_
  refine z_bipush (nI 24) (by decide) dX8_init_195 ?_
  refine n_newarr (t := 2) (N := 24) (m := 141) (Or.inr (Or.inl ⟨rfl, rfl⟩)) ka_boolean (nI_pos (by decide)) (nI_clamp (by decide)) (by decide) (by omega) rfl z46 (by decide) (by decide) dX8_init_197 ?_
  have z47 := zfr_n z46 (m := 141) (by omega)
  refine n_putR kf_X8_80 (zc_at rfl (by omega) (by omega)) rfl (by omega) rfl (fun C T N h => by cases h; rfl) dX8_init_199 ?_
  have z48 := zfr_r (k := 117) (j := 28) (v := 141) z47 (by omega)
  refine z_aload_n rfl rfl dX8_init_202 ?_
  refine z_bipush (nI 24) (by decide) dX8_init_203 ?_
  refine n_newarr (t := 1) (N := 24) (m := 142) (Or.inl ⟨rfl, rfl⟩) ka_int (nI_pos (by decide)) (nI_clamp (by decide)) (by decide) (by omega) rfl z48 (by decide) (by decide) dX8_init_205 ?_
  have z49 := zfr_n z48 (m := 142) (by omega)
  refine n_putR kf_X8_83 (zc_at rfl (by omega) (by omega)) rfl (by omega) rfl (fun C T N h => by cases h; rfl) dX8_init_207 ?_
  have z50 := zfr_r (k := 117) (j := 29) (v := 142) z49 (by omega)
  refine z_aload_n rfl rfl dX8_init_210 ?_
  refine z_bipush (nI 24) (by decide) dX8_init_211 ?_
  refine n_newarr (t := 1) (N := 24) (m := 143) (Or.inl ⟨rfl, rfl⟩) ka_int (nI_pos (by decide)) (nI_clamp (by decide)) (by decide) (by omega) rfl z50 (by decide) (by decide) dX8_init_213 ?_
  have z51 := zfr_n z50 (m := 143) (by omega)
  refine n_putR kf_X8_86 (zc_at rfl (by omega) (by omega)) rfl (by omega) rfl (fun C T N h => by cases h; rfl) dX8_init_215 ?_
  have z52 := zfr_r (k := 117) (j := 30) (v := 143) z51 (by omega)
  refine z_aload_n rfl rfl dX8_init_218 ?_
  refine z_bipush (nI 24) (by decide) dX8_init_219 ?_
  refine n_newarr (t := 1) (N := 24) (m := 144) (Or.inl ⟨rfl, rfl⟩) ka_int (nI_pos (by decide)) (nI_clamp (by decide)) (by decide) (by omega) rfl z52 (by decide) (by decide) dX8_init_221 ?_
  have z53 := zfr_n z52 (m := 144) (by omega)
  refine n_putR kf_X8_89 (zc_at rfl (by omega) (by omega)) rfl (by omega) rfl (fun C T N h => by cases h; rfl) dX8_init_223 ?_
  have z54 := zfr_r (k := 117) (j := 31) (v := 144) z53 (by omega)
  refine z_iconst (nI 0) (by decide) dX8_init_226 ?_
  refine z_istore_n rfl (by decide) rfl dX8_init_227 ?_
  refine lp1_X8_init (μ := μ) rfl rfl (fun hz2 => ?_) _ 0 _ rfl (Nat.zero_le _) rfl z54
  refine z_iconst (nI 0) (by decide) dX8_init_258 ?_
  refine z_istore_n rfl (by decide) rfl dX8_init_259 ?_
  exact lp2_X8_init rfl _ 0 _ rfl (Nat.zero_le _) rfl hz2
