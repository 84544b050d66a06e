/-! the law's prologue (printed by wip/p25/gen_3.py) -/
theorem m_xnew {F : Bool} {E : Nat × (Nat → Int32)} {K : zK} {n0 : Nat} {o : zO} {pc : Nat} {ls sk : List Value} {μ : zMu} {u us : Nat} {J : Nat → Nat} {m : Nat} {ν : zMu} (N : Nat) (hN : zlen m = N) (hN2 : N ≤ 1000) (hc : u + 1 ≤ zKm K) (hs : us + N ≤ zKs K) (d : decode (zKc K) pc = .ok (.newarray .int, 2))
    (kk : ∀ (J' : Nat → Nat) (ν' : zMu), (∀ a, a < m → J' a = J a) → (∀ a, a < m → ν' a = ν a) → ν' m = (fun _ => 0) → zV F E K n0 o (pc + 2) ls (.ref (J' m) :: sk) (zm μ (J', m + 1, ν')) (u + 1) (us + N)) : zV F E K n0 o pc ls (.int (nI N) :: sk) (zm μ (J, m, ν)) u us := by
  subst hN
  refine z_xnew (M := zm μ (J, m, ν)) rfl ka_int (nI_pos (by omega)) (nI_clamp (by omega)) hN2 hc hs d (fun j => ?_)
  exact kk (zJn J m j) (zVn ν m) (fun a h => zJn_o (by omega)) (fun a h => zVn_o (by omega)) zVn_s
theorem m_xdrop {F : Bool} {E : Nat × (Nat → Int32)} {K : zK} {n0 : Nat} {o : zO} {pc : Nat} {ls sk : List Value} {μ : zMu} {u us : Nat} {J J' : Nat → Nat} {m m' : Nat} {ν ν' : zMu} (hm : m' ≤ m) (hJ : ∀ a, a < m' → J' a = J a) (hν : ∀ a, a < m' → ν' a = ν a)
    (kk : zV F E K n0 o pc ls sk (zm μ (J', m', ν')) u us) : zV F E K n0 o pc ls sk (zm μ (J, m, ν)) u us := z_xdrop (M := zm μ (J, m, ν)) rfl hm hJ hν kk
theorem m_xnew0 {F : Bool} {E : Nat × (Nat → Int32)} {K : zK} {n0 : Nat} {o : zO} {pc : Nat} {ls sk : List Value} {μ : zMu} {u us : Nat} {J : Nat → Nat} {m : Nat} (N : Nat) (hN : zlen m = N) (hN2 : N ≤ 1000) (hc : u + 1 ≤ zKm K) (hs : us + N ≤ zKs K) (d : decode (zKc K) pc = .ok (.newarray .int, 2))
    (kk : ∀ (J' : Nat → Nat), (∀ a, a < m → J' a = J a) → zV F E K n0 o (pc + 2) ls (.ref (J' m) :: sk) (zm μ (J', m + 1, fun _ _ => 0)) (u + 1) (us + N)) : zV F E K n0 o pc ls (.int (nI N) :: sk) (zm μ (J, m, fun _ _ => 0)) u us :=
  m_xnew N hN hN2 hc hs d (fun J' ν' h1 h2 h3 => m_xdrop (J' := J') (ν' := fun _ _ => 0) (Nat.le_refl _) (fun a _ => rfl) (fun a ha => by
    by_cases e : a = m
    · rw [e, h3]
    · rw [h2 a (by omega)]) (kk J' h1))
theorem i1_o {μ : zMu} {k : Nat} (h : 116 < k) : zit ib1 0 24 μ k = μ k := zit_keep (fun i ν => by unfold ib1; rw [zu_r (by omega), zu_r (by omega)]) μ 24
/-- the ints at the start -/
def u0 : zMu := c7mu (fun _ _ => 0)
theorem r9_ok : ∀ k, k ≤ 116 → ∀ j, j < zbd (zκ k) → c7rho (fun _ _ => 0) k j = zρ k j := by
  have h : ∀ k, k < 117 → ∀ j, j < zbd (zκ k) → c7rho (fun _ _ => 0) k j = zρ k j := by decide +kernel
  exact fun k hk => h k (by omega)
set_option maxRecDepth 100000 in
set_option maxHeartbeats 4000000 in
theorem law_pro {E : Nat × (Nat → Int32)} {o : zO} (kk : ∀ J : Nat → Nat, zV true E kL_law 0 o 64 (.ref (0) :: .ref (1) :: .ref (J 0) :: .ref (J 1) :: .ref (J 2) :: .ref (J 3) :: .ref (J 4) :: .ref (J 5) :: .ref (J 6) :: .ref (J 7) :: .ref (J 8) :: .int (nI 0) :: .int (nI 0) :: .null :: .null :: .null :: .null :: .null :: .null :: .null :: .null :: .null :: .null :: .null :: .null :: .null :: .null :: .null :: .null :: .null :: .null :: .null :: .null :: []) [] (zm u0 (J, 9, fun _ _ => 0)) 125 2843) : zV true E kL_law 0 o 0 (.ref (0) :: .null :: .null :: .null :: .null :: .null :: .null :: .null :: .null :: .null :: .null :: .null :: .null :: .null :: .null :: .null :: .null :: .null :: .null :: .null :: .null :: .null :: .null :: .null :: .null :: .null :: .null :: .null :: .null :: .null :: .null :: .null :: .null :: []) [] (zc (fun _ _ => 0) (fun _ _ => 0) 0) 0 0 := by
  have hz0 : zfr (fun _ _ => 0) (fun _ _ => 0) 0 := fun k hk => ⟨rfl, rfl⟩
  refine n_new (N := 8) (m := 1) kn_L_11 rfl (by omega) rfl hz0 (by decide) (by decide) dL_law_0 ?_
  have z1 := zfr_n hz0 (m := 1) (by omega)
  refine z_dup rfl dL_law_3 ?_
  refine z_callI (as := []) (ct_X7_init z1) ko_X7_init kl_L_52 rfl rfl (by omega) rfl ⟨by decide, by decide, by decide, by decide⟩ (Nat.le_of_ble_eq_true rfl) rfl dL_law_4 ?_
  show zV true E kL_law 0 _ 7 (.ref (0) :: .null :: .null :: .null :: .null :: .null :: .null :: .null :: .null :: .null :: .null :: .null :: .null :: .null :: .null :: .null :: .null :: .null :: .null :: .null :: .null :: .null :: .null :: .null :: .null :: .null :: .null :: .null :: .null :: .null :: .null :: .null :: .null :: []) [.ref (1)] (zc (c7mu (fun _ _ => 0)) (c7rho (fun _ _ => 0)) (116)) 116 2443
  refine z_astore_n rfl (by decide) rfl dL_law_7 ?_
  refine z_swap (ρ' := zρ) (t := true) r9_ok ?_
  show zV true E kL_law 0 _ 8 (.ref (0) :: .ref (1) :: .null :: .null :: .null :: .null :: .null :: .null :: .null :: .null :: .null :: .null :: .null :: .null :: .null :: .null :: .null :: .null :: .null :: .null :: .null :: .null :: .null :: .null :: .null :: .null :: .null :: .null :: .null :: .null :: .null :: .null :: .null :: []) [] (zm u0 (fun _ => 0, 0, fun _ _ => 0)) 116 2443
  refine z_bipush (nI 64) (by decide) dL_law_8 ?_
  refine m_xnew0 64 rfl (by decide) (by decide) (by decide) dL_law_10 (fun J1 h1 => ?_)
  refine z_astore_n rfl (by decide) rfl dL_law_12 ?_
  refine z_bipush (nI 64) (by decide) dL_law_13 ?_
  refine m_xnew0 64 rfl (by decide) (by decide) (by decide) dL_law_15 (fun J2 h2 => ?_)
  refine z_astore_n rfl (by decide) rfl dL_law_17 ?_
  refine z_bipush (nI 64) (by decide) dL_law_18 ?_
  refine m_xnew0 64 rfl (by decide) (by decide) (by decide) dL_law_20 (fun J3 h3 => ?_)
  refine z_astore (by decide) rfl dL_law_22 ?_
  refine z_bipush (nI 64) (by decide) dL_law_24 ?_
  refine m_xnew0 64 rfl (by decide) (by decide) (by decide) dL_law_26 (fun J4 h4 => ?_)
  refine z_astore (by decide) rfl dL_law_28 ?_
  refine z_bipush (nI 64) (by decide) dL_law_30 ?_
  refine m_xnew0 64 rfl (by decide) (by decide) (by decide) dL_law_32 (fun J5 h5 => ?_)
  refine z_astore (by decide) rfl dL_law_34 ?_
  refine z_iconst (nI 4) (by decide) dL_law_36 ?_
  refine m_xnew0 4 rfl (by decide) (by decide) (by decide) dL_law_37 (fun J6 h6 => ?_)
  refine z_astore (by decide) rfl dL_law_39 ?_
  refine z_bipush (nI 8) (by decide) dL_law_41 ?_
  refine m_xnew0 8 rfl (by decide) (by decide) (by decide) dL_law_43 (fun J7 h7 => ?_)
  refine z_astore (by decide) rfl dL_law_45 ?_
  refine z_iconst (nI 4) (by decide) dL_law_47 ?_
  refine m_xnew0 4 rfl (by decide) (by decide) (by decide) dL_law_48 (fun J8 h8 => ?_)
  refine z_astore (by decide) rfl dL_law_50 ?_
  refine z_bipush (nI 64) (by decide) dL_law_52 ?_
  refine m_xnew0 64 rfl (by decide) (by decide) (by decide) dL_law_54 (fun J9 h9 => ?_)
  refine z_astore (by decide) rfl dL_law_56 ?_
  refine z_iconst (nI 0) (by decide) dL_law_58 ?_
  refine z_istore (by decide) rfl dL_law_59 ?_
  refine z_iconst (nI 0) (by decide) dL_law_61 ?_
  refine z_istore (by decide) rfl dL_law_62 ?_
  have e0 : J1 0 = J9 0 := by rw [h9 0 (by omega), h8 0 (by omega), h7 0 (by omega), h6 0 (by omega), h5 0 (by omega), h4 0 (by omega), h3 0 (by omega), h2 0 (by omega)]
  have e1 : J2 1 = J9 1 := by rw [h9 1 (by omega), h8 1 (by omega), h7 1 (by omega), h6 1 (by omega), h5 1 (by omega), h4 1 (by omega), h3 1 (by omega)]
  have e2 : J3 2 = J9 2 := by rw [h9 2 (by omega), h8 2 (by omega), h7 2 (by omega), h6 2 (by omega), h5 2 (by omega), h4 2 (by omega)]
  have e3 : J4 3 = J9 3 := by rw [h9 3 (by omega), h8 3 (by omega), h7 3 (by omega), h6 3 (by omega), h5 3 (by omega)]
  have e4 : J5 4 = J9 4 := by rw [h9 4 (by omega), h8 4 (by omega), h7 4 (by omega), h6 4 (by omega)]
  have e5 : J6 5 = J9 5 := by rw [h9 5 (by omega), h8 5 (by omega), h7 5 (by omega)]
  have e6 : J7 6 = J9 6 := by rw [h9 6 (by omega), h8 6 (by omega)]
  have e7 : J8 7 = J9 7 := by rw [h9 7 (by omega)]
  show zV true E kL_law 0 _ 64 (.ref (0) :: .ref (1) :: .ref (J1 0) :: .ref (J2 1) :: .ref (J3 2) :: .ref (J4 3) :: .ref (J5 4) :: .ref (J6 5) :: .ref (J7 6) :: .ref (J8 7) :: .ref (J9 8) :: .int (nI 0) :: .int (nI 0) :: .null :: .null :: .null :: .null :: .null :: .null :: .null :: .null :: .null :: .null :: .null :: .null :: .null :: .null :: .null :: .null :: .null :: .null :: .null :: .null :: []) [] (zm u0 (J9, 9, fun _ _ => 0)) 125 2843
  refine z_lseq (ls1 := (.ref (0) :: .ref (1) :: .ref (J9 0) :: .ref (J9 1) :: .ref (J9 2) :: .ref (J9 3) :: .ref (J9 4) :: .ref (J9 5) :: .ref (J9 6) :: .ref (J9 7) :: .ref (J9 8) :: .int (nI 0) :: .int (nI 0) :: .null :: .null :: .null :: .null :: .null :: .null :: .null :: .null :: .null :: .null :: .null :: .null :: .null :: .null :: .null :: .null :: .null :: .null :: .null :: .null :: [])) (by rw [e0, e1, e2, e3, e4, e5, e6, e7]) (kk J9)
