/-! the law's prologue (printed by wip/whole/gen_r.py) -/
def c8rho (ρ : zRh) : zRh := (zur (zur (zur (zur (zur (zur (zur (zur (zur (zur (zur (zur (zur (zur (zur (zur (zur (zur (zur (zur (zur (zur (zur (zur (zur (zur (zur ρ (117) 1 (118)) (117) 2 (119)) (117) 3 (120)) (117) 4 (121)) (117) 6 (122)) (117) 7 (123)) (117) 9 (124)) (117) 10 (125)) (117) 11 (126)) (117) 12 (127)) (117) 14 (128)) (117) 15 (129)) (117) 16 (130)) (117) 17 (131)) (117) 18 (132)) (117) 19 (133)) (117) 20 (134)) (117) 21 (135)) (117) 22 (136)) (117) 24 (137)) (117) 25 (138)) (117) 26 (139)) (117) 27 (140)) (117) 28 (141)) (117) 29 (142)) (117) 30 (143)) (117) 31 (144))
theorem i1_o {μ : zMu} {k : Nat} (h : 116 < k) : zit ib1 0 24 μ k = μ k := zit_keep (fun i ν => by unfold ib1; rw [zu_r (by omega), zu_r (by omega)]) μ 24
theorem i2_o {μ : zMu} {c k : Nat} (h : c < 4) (hk : 116 < k) : i2 c μ k = μ k := by
  unfold i2
  rw [zit_keep (fun i ν => by unfold ib2; rw [zu_r (by omega)]), zu_r (by omega)]
theorem zfi_7 {μ : zMu} {ρ : zRh} (h : zfr μ ρ 1) : zfr (c7mu μ) (c7rho ρ) 116 := by
  intro k hk
  constructor
  · unfold c7mu
    repeat (first | rw [zu_r (by omega)] | rw [i2_o (by omega) hk] | rw [i1_o hk])
    exact (h k (by omega)).1
  · unfold c7rho
    repeat rw [zur_ne _ _ _ (by omega)]
    exact (h k (by omega)).2
theorem zfi_8 {μ : zMu} {ρ : zRh} (h : zfr μ ρ 117) : zfr (i8 μ) (c8rho ρ) 144 := by
  refine fun k hk => ⟨?_, ?_⟩
  · unfold i8
    rw [zit_keep (fun c ν => zit_keep (fun i ν => by unfold ib9; rw [zu_r (by omega)]) ν 100), zit_keep (fun i ν => by unfold ib8; rw [zu_r (by omega), zu_r (by omega)])]
    exact (h k (by omega)).1
  · unfold c8rho
    repeat rw [zur_ne _ _ _ (by omega)]
    exact (h k (by omega)).2
/-- the ints at the start -/
def u0 : zMu := i8 (c7mu (fun _ _ => 0))
theorem r9_ok : ∀ k, k ≤ 145 → ∀ j, j < zbd (zκ k) → c8rho (c7rho (fun _ _ => 0)) k j = zρ k j := by
  have h : ∀ k, k < 146 → ∀ j, j < zbd (zκ k) → c8rho (c7rho (fun _ _ => 0)) k j = zρ k j := by decide +kernel
  exact fun k hk => h k (by omega)
set_option maxRecDepth 100000 in
set_option maxHeartbeats 4000000 in
theorem law_pro {E : Nat × (Nat → Int32)} {o : zO} (kk : zV true E kL_law 0 o 23 [.ref (0), .ref (1), .ref (117), .ref (145), .int (nI 0), .null, .null] [] (zm u0 0) 145 5114) : zV true E kL_law 0 o 0 [.ref (0), .null, .null, .null, .null, .null, .null] [] (zc (fun _ _ => 0) (fun _ _ => 0) 0) 0 0 := by
  have hz0 : zfr (fun _ _ => 0) (fun _ _ => 0) 0 := fun k hk => ⟨rfl, rfl⟩
  refine n_new (N := 8) (m := 1) kn_L_8 rfl (by omega) rfl hz0 (by decide) (by decide) dL_law_0 ?_
  have z1 := zfr_n hz0 (m := 1) (by omega)
  refine z_dup rfl dL_law_3 ?_
  refine z_callI (as := []) (ct_X7_init z1) ko_X7_init kl_L_89 rfl rfl (by omega) rfl ⟨by decide, by decide, by decide, by decide⟩ (Nat.le_of_ble_eq_true rfl) rfl dL_law_4 ?_
  show zV true E kL_law 0 _ 7 [.ref (0), .null, .null, .null, .null, .null, .null] [.ref (1)] (zc (c7mu (fun _ _ => 0)) (c7rho (fun _ _ => 0)) (116)) 116 2443
  have z2 := zfi_7 z1
  refine z_astore_n rfl (by decide) rfl dL_law_7 ?_
  refine n_new (N := 34) (m := 117) kn_L_90 rfl (by omega) rfl z2 (by decide) (by decide) dL_law_8 ?_
  have z3 := zfr_n z2 (m := 117) (by omega)
  refine z_dup rfl dL_law_11 ?_
  refine z_callI (as := []) (ct_X8_init z3) ko_X8_init kl_L_92 rfl rfl (by omega) rfl ⟨by decide, by decide, by decide, by decide⟩ (Nat.le_of_ble_eq_true rfl) rfl dL_law_12 ?_
  show zV true E kL_law 0 _ 15 [.ref (0), .ref (1), .null, .null, .null, .null, .null] [.ref (117)] (zc (i8 (c7mu (fun _ _ => 0))) (c8rho (c7rho (fun _ _ => 0))) (144)) 144 5113
  have z4 := zfi_8 z3
  refine z_astore_n rfl (by decide) rfl dL_law_15 ?_
  refine z_iconst (nI 1) (by decide) dL_law_16 ?_
  refine n_newarr (t := 3) (N := 1) (m := 145) (Or.inr (Or.inr ⟨rfl, rfl, rfl⟩)) ka_long (nI_pos (by decide)) (nI_clamp (by decide)) (by decide) (by omega) rfl z4 (by decide) (by decide) dL_law_17 ?_
  have z5 := zfr_n z4 (m := 145) (by omega)
  refine z_astore_n rfl (by decide) rfl dL_law_19 ?_
  refine z_iconst (nI 0) (by decide) dL_law_20 ?_
  refine z_istore (by decide) rfl dL_law_21 ?_
  refine z_swap (ρ' := zρ) (t := true) r9_ok ?_
  exact kk
