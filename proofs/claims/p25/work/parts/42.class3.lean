/-! the class: loops (printed by wip/whole/gen_c.py) -/
set_option maxRecDepth 100000 in
set_option maxHeartbeats 4000000 in
theorem lp_X6_begin {E : Nat × (Nat → Int32)} {g : zLw} {μ : zMu} : ∀ (n : Nat) (m : Nat) (ν : zMu), 24 - m = n → m ≤ 24 → ν = zit (cbeg) 0 m (μ) → zV false E kX6_begin 116 (.inl none, zm (zit cbeg 0 24 μ) g) 2 [.ref (15), .int (nI m)] [] (zm ν g) 0 0 := by
  intro n
  induction n using Nat.strongRecOn with
  | ind n ih =>
    intro m ν hm hle hs 
    refine z_iload_n rfl rfl dX6_begin_2 ?_
    refine z_bipush (nI 24) (by decide) dX6_begin_3 ?_
    refine z_icmp_ge 35 (by decide) dX6_begin_5 (z_br (zcn (n := 24) (by omega) (m) (by omega)).2.2 (fun h1 => ?_)) (z_brn (zcn (n := 24) (by omega) (m) (by omega)).2.2 (fun h2 => ?_))
    · have hmL : m = 24 := by omega
      have hz : zit (cbeg) 0 24 (μ) = ν := by rw [hs, hmL]
      exact z_vret (by rw [hz]) rfl (by decide) (by decide) dX6_begin_35
    · refine z_aload_n rfl rfl dX6_begin_8 ?_
      refine m_getR (16) kf_X6_9 (zl_a rfl rfl) rfl rfl (by decide) dX6_begin_9 ?_
      refine z_iload_n rfl rfl dX6_begin_12 ?_
      refine z_iconst (nI 0) (by decide) dX6_begin_13 ?_
      refine m_iast (m) (zl_a rfl rfl) rfl (by omega) (by decide) dX6_begin_14 ?_
      refine z_aload_n rfl rfl dX6_begin_15 ?_
      refine m_getR (17) kf_X6_15 (zl_a rfl rfl) rfl rfl (by decide) dX6_begin_16 ?_
      refine z_iload_n rfl rfl dX6_begin_19 ?_
      refine z_iconst (nI 0) (by decide) dX6_begin_20 ?_
      refine m_iast (m) (zl_a rfl rfl) rfl (by omega) (by decide) dX6_begin_21 ?_
      refine z_aload_n rfl rfl dX6_begin_22 ?_
      refine m_getR (18) kf_X6_18 (zl_a rfl rfl) rfl rfl (by decide) dX6_begin_23 ?_
      refine z_iload_n rfl rfl dX6_begin_26 ?_
      refine z_iconst (nI 0) (by decide) dX6_begin_27 ?_
      refine m_iast (m) (zl_a rfl rfl) rfl (by omega) (by decide) dX6_begin_28 ?_
      refine z_iinc (nI (m + 1)) rfl (zinc _) (by decide) rfl dX6_begin_29 ?_
      refine z_goto 2 (by decide) dX6_begin_32 ?_
      exact ih (24 - (m + 1)) (by omega) (m + 1) (zu (zu (zu ν (16) (m) (nI 0)) (17) (m) (nI 0)) (18) (m) (nI 0)) rfl (by omega) (zst0 hs (rfl))
set_option maxRecDepth 100000 in
set_option maxHeartbeats 4000000 in
theorem ct_X6_begin {E : Nat × (Nat → Int32)} {μ : Nat → Nat → Int32} {g : zLw}  : zCt E kX6_begin [.ref (15)] (zm μ g) (.inl none, zm (zit cbeg 0 24 μ) g) := by
  refine zCt_of ko_X6_begin (Nat.le_of_ble_eq_true rfl) (zas_r zas_0) ⟨Nat.le_refl _, fun h => absurd h (Nat.lt_irrefl _)⟩ (Nat.le_of_ble_eq_true rfl) ?_
  show zV false E kX6_begin 116 _ 0 [.ref (15), .null] [] (zm μ g) 0 0
  refine z_iconst (nI 0) (by decide) dX6_begin_0 ?_
  refine z_istore_n rfl (by decide) rfl dX6_begin_1 ?_
  exact lp_X6_begin _ 0 μ rfl (Nat.zero_le _) rfl
set_option maxRecDepth 100000 in
set_option maxHeartbeats 4000000 in
theorem lp_X6_settle {E : Nat × (Nat → Int32)} {g : zLw} {μ : zMu} {c : Nat} (hc : c < 12) : ∀ (n : Nat) (m : Nat) (y : Int32) (ν : zMu), 24 - m = n → m ≤ 24 → (y, ν) = zit (cset c) 0 m (nI 0, μ) → (y = nI 0 ∨ y = nI 1) → zV false E kX6_settle 116 (.inl (some (.int (zit (cset c) 0 24 (nI 0, μ)).1)), zm (zit (cset c) 0 24 (nI 0, μ)).2 g) 4 [.ref (15), .ref (33 + 7 * c), .int (y), .int (nI m), .null] [] (zm ν g) 0 0 := by
  intro n
  induction n using Nat.strongRecOn with
  | ind n ih =>
    intro m y ν hm hle hs hy
    refine z_iload_n rfl rfl dX6_settle_4 ?_
    refine z_bipush (nI 24) (by decide) dX6_settle_5 ?_
    refine z_icmp_ge 55 (by decide) dX6_settle_7 (z_br (zcn (n := 24) (by omega) (m) (by omega)).2.2 (fun h1 => ?_)) (z_brn (zcn (n := 24) (by omega) (m) (by omega)).2.2 (fun h2 => ?_))
    · have hmL : m = 24 := by omega
      have hz : zit (cset c) 0 24 (nI 0, μ) = (y, ν) := by rw [hs, hmL]
      refine z_iload_n rfl rfl dX6_settle_55 ?_
      exact z_iret (by rw [hz]) rfl (zbn hy) (by decide) (by decide) dX6_settle_56
    · refine z_aload_n rfl rfl dX6_settle_10 ?_
      refine m_getR (18) kf_X6_18 (zl_a rfl rfl) rfl rfl (by decide) dX6_settle_11 ?_
      refine z_iload_n rfl rfl dX6_settle_14 ?_
      refine m_iald (m) (zl_a rfl rfl) rfl (by omega) (by decide) dX6_settle_15 ?_
      refine z_istore (by decide) rfl dX6_settle_16 ?_
      refine z_iload rfl dX6_settle_18 ?_
      refine z_if_le 49 (by decide) dX6_settle_20 (fun h3 => ?_) (fun h4 => ?_)
      · refine z_iinc (nI (m + 1)) rfl (zinc _) (by decide) rfl dX6_settle_49 ?_
        refine z_goto 4 (by decide) dX6_settle_52 ?_
        refine z_fgt [.ref (15), .ref (33 + 7 * c), .int (y), .int (nI (m + 1)), .null] ⟨Or.inl rfl, ⟨Or.inl rfl, ⟨Or.inl rfl, ⟨Or.inl rfl, ⟨Or.inr rfl, trivial⟩⟩⟩⟩⟩ ?_
        exact ih (24 - (m + 1)) (by omega) (m + 1) (y) (ν) rfl (by omega) (zst0 hs (by rw [cset, if_pos h3])) hy
      · refine z_aload_n rfl rfl dX6_settle_23 ?_
        refine z_iload_n rfl rfl dX6_settle_24 ?_
        refine z_aload_n rfl rfl dX6_settle_25 ?_
        refine m_getR (16) kf_X6_9 (zl_a rfl rfl) rfl rfl (by decide) dX6_settle_26 ?_
        refine z_iload_n rfl rfl dX6_settle_29 ?_
        refine m_iald (m) (zl_a rfl rfl) rfl (by omega) (by decide) dX6_settle_30 ?_
        refine z_iload rfl dX6_settle_31 ?_
        refine z_idiv (fun q => h4 (by rw [q]; decide)) dX6_settle_33 ?_
        refine z_aload_n rfl rfl dX6_settle_34 ?_
        refine m_getR (17) kf_X6_15 (zl_a rfl rfl) rfl rfl (by decide) dX6_settle_35 ?_
        refine z_iload_n rfl rfl dX6_settle_38 ?_
        refine m_iald (m) (zl_a rfl rfl) rfl (by omega) (by decide) dX6_settle_39 ?_
        refine z_iload rfl dX6_settle_40 ?_
        refine z_idiv (fun q => h4 (by rw [q]; decide)) dX6_settle_42 ?_
        refine z_iconst (-1) (by decide) dX6_settle_43 ?_
        refine z_callV (as := [.int (nI m), .int ((ν (16) (m)) / (ν (18) (m))), .int ((ν (17) (m)) / (ν (18) (m))), .int (-1)]) (ct_X0_put (c := c) (p := m) (by omega) (by omega) ((ν (16) (m)) / (ν (18) (m))) ((ν (17) (m)) / (ν (18) (m))) (-1)) ko_X0_put kl_X6_21 rfl (zc0 (by omega)) rfl rfl ⟨by decide, by decide, by decide, by decide⟩ (by decide) rfl dX6_settle_44 ?_
        refine z_iconst (nI 1) (by decide) dX6_settle_47 ?_
        refine z_istore_n rfl (by decide) rfl dX6_settle_48 ?_
        refine z_iinc (nI (m + 1)) rfl (zinc _) (by decide) rfl dX6_settle_49 ?_
        refine z_goto 4 (by decide) dX6_settle_52 ?_
        refine z_fgt [.ref (15), .ref (33 + 7 * c), .int (nI 1), .int (nI (m + 1)), .null] ⟨Or.inl rfl, ⟨Or.inl rfl, ⟨Or.inl rfl, ⟨Or.inl rfl, ⟨Or.inr rfl, trivial⟩⟩⟩⟩⟩ ?_
        exact ih (24 - (m + 1)) (by omega) (m + 1) (nI 1) (zput ν c m ((ν (16) (m)) / (ν (18) (m))) ((ν (17) (m)) / (ν (18) (m))) (-1)) rfl (by omega) (zst0 hs (by rw [cset, if_neg h4])) (Or.inr rfl)
set_option maxRecDepth 100000 in
set_option maxHeartbeats 4000000 in
theorem ct_X6_settle {E : Nat × (Nat → Int32)} {μ : Nat → Nat → Int32} {g : zLw} {c : Nat} (hc : c < 12) : zCt E kX6_settle [.ref (15), .ref (33 + 7 * c)] (zm μ g) (.inl (some (.int (zit (cset c) 0 24 (nI 0, μ)).1)), zm (zit (cset c) 0 24 (nI 0, μ)).2 g) := by
  refine zCt_of ko_X6_settle (Nat.le_of_ble_eq_true rfl) (zas_r (zas_r zas_0)) ⟨Nat.le_refl _, fun h => absurd h (Nat.lt_irrefl _)⟩ (Nat.le_of_ble_eq_true rfl) ?_
  show zV false E kX6_settle 116 _ 0 [.ref (15), .ref (33 + 7 * c), .null, .null, .null] [] (zm μ g) 0 0
  refine z_iconst (nI 0) (by decide) dX6_settle_0 ?_
  refine z_istore_n rfl (by decide) rfl dX6_settle_1 ?_
  refine z_iconst (nI 0) (by decide) dX6_settle_2 ?_
  refine z_istore_n rfl (by decide) rfl dX6_settle_3 ?_
  exact lp_X6_settle hc _ 0 (nI 0) μ rfl (Nat.zero_le _) rfl (Or.inl rfl)
set_option maxRecDepth 100000 in
set_option maxHeartbeats 4000000 in
theorem lp_X0_knownFrom {E : Nat × (Nat → Int32)} {g : zLw} {μ : zMu} {c f t : Nat} (hc : c < 12) (hf : f ≤ t) (ht : t < 24) : ∀ (n : Nat) (m : Nat) (s : Int32), (t + 1 - f) - m = n → m ≤ (t + 1 - f) → s = zit (ckn μ c) f m (nI 0) → zV false E kX0_knownFrom 116 (.inl (some (.int (zit (ckn μ c) f (t + 1 - f) (nI 0)))), zm μ g) 5 [.ref (33 + 7 * c), .int (nI f), .int (nI t), .int (s), .int (nI (f + m))] [] (zm μ g) 0 0 := by
  intro n
  induction n using Nat.strongRecOn with
  | ind n ih =>
    intro m s hm hle hs 
    refine z_iload rfl dX0_knownFrom_5 ?_
    refine z_iload_n rfl rfl dX0_knownFrom_7 ?_
    refine z_icmp_gt 29 (by decide) dX0_knownFrom_8 (z_br (zcn (n := t) (by omega) (f + m) (by omega)).2.1 (fun h1 => ?_)) (z_brn (zcn (n := t) (by omega) (f + m) (by omega)).2.1 (fun h2 => ?_))
    · have hmL : m = (t + 1 - f) := by omega
      have hz : zit (ckn μ c) f ((t + 1 - f)) (nI 0) = s := by rw [hs, hmL]
      refine z_iload_n rfl rfl dX0_knownFrom_29 ?_
      exact z_iret (by rw [hz]) rfl (znarI _) (by decide) (by decide) dX0_knownFrom_30
    · refine z_aload_n rfl rfl dX0_knownFrom_11 ?_
      refine z_iload rfl dX0_knownFrom_12 ?_
      refine z_callV (as := [.int (nI (f + m))]) (ct_X0_knows (c := c) (p := f + m) (by omega) (by omega)) ko_X0_knows kl_X0_40 rfl (zc0 (by omega)) rfl rfl ⟨by decide, by decide, by decide, by decide⟩ (by decide) rfl dX0_knownFrom_14 ?_
      refine z_if_eq 23 (by decide) dX0_knownFrom_17 (z_br zb_0 (fun h3 => ?_)) (z_br zb_n (fun h4 => ?_))
      · refine z_iinc (nI (f + m + 1)) rfl (zinc _) (by decide) rfl dX0_knownFrom_23 ?_
        refine z_goto 5 (by decide) dX0_knownFrom_26 ?_
        exact ih ((t + 1 - f) - (m + 1)) (by omega) (m + 1) (s) rfl (by omega) (zst hs (by rw [ckn, if_neg h3]))
      · refine z_iinc (s + 1) rfl rfl (by decide) rfl dX0_knownFrom_20 ?_
        refine z_iinc (nI (f + m + 1)) rfl (zinc _) (by decide) rfl dX0_knownFrom_23 ?_
        refine z_goto 5 (by decide) dX0_knownFrom_26 ?_
        exact ih ((t + 1 - f) - (m + 1)) (by omega) (m + 1) (s + 1) rfl (by omega) (zst hs (by rw [ckn, if_pos h4]))
set_option maxRecDepth 100000 in
set_option maxHeartbeats 4000000 in
theorem ct_X0_knownFrom {E : Nat × (Nat → Int32)} {μ : Nat → Nat → Int32} {g : zLw} {c f t : Nat} (hc : c < 12) (hf : f ≤ t) (ht : t < 24) : zCt E kX0_knownFrom [.ref (33 + 7 * c), .int (nI f), .int (nI t)] (zm μ g) (.inl (some (.int (zit (ckn μ c) f (t + 1 - f) (nI 0)))), zm μ g) := by
  refine zCt_of ko_X0_knownFrom (Nat.le_of_ble_eq_true rfl) (zas_r (zas_i (zas_i zas_0))) ⟨Nat.le_refl _, fun h => absurd h (Nat.lt_irrefl _)⟩ (Nat.le_of_ble_eq_true rfl) ?_
  show zV false E kX0_knownFrom 116 _ 0 [.ref (33 + 7 * c), .int (nI f), .int (nI t), .null, .null] [] (zm μ g) 0 0
  refine z_iconst (nI 0) (by decide) dX0_knownFrom_0 ?_
  refine z_istore_n rfl (by decide) rfl dX0_knownFrom_1 ?_
  refine z_iload_n rfl rfl dX0_knownFrom_2 ?_
  refine z_istore (by decide) rfl dX0_knownFrom_3 ?_
  exact lp_X0_knownFrom hc hf ht _ 0 (nI 0) rfl (Nat.zero_le _) rfl
set_option maxRecDepth 100000 in
set_option maxHeartbeats 4000000 in
theorem lp_X0_islandsWith {E : Nat × (Nat → Int32)} {g : zLw} {μ : zMu} {c d : Nat} (hc : c < 12) (hd : d < 12) : ∀ (n : Nat) (m : Nat) (s : Int32), 20 - m = n → m ≤ 20 → s = zit (cisl μ c d) 0 m (nI 0) → zV false E kX0_islandsWith 116 (.inl (some (.int (zit (cisl μ c d) 0 20 (nI 0)))), zm μ g) 4 [.ref (33 + 7 * c), .ref (33 + 7 * d), .int (s), .int (nI m)] [] (zm μ g) 0 0 := by
  intro n
  induction n using Nat.strongRecOn with
  | ind n ih =>
    intro m s hm hle hs 
    refine z_iload_n rfl rfl dX0_islandsWith_4 ?_
    refine z_bipush (nI 20) (by decide) dX0_islandsWith_5 ?_
    refine z_icmp_ge 37 (by decide) dX0_islandsWith_7 (z_br (zcn (n := 20) (by omega) (m) (by omega)).2.2 (fun h1 => ?_)) (z_brn (zcn (n := 20) (by omega) (m) (by omega)).2.2 (fun h2 => ?_))
    · have hmL : m = 20 := by omega
      have hz : zit (cisl μ c d) 0 20 (nI 0) = s := by rw [hs, hmL]
      refine z_iload_n rfl rfl dX0_islandsWith_37 ?_
      exact z_iret (by rw [hz]) rfl (znarI _) (by decide) (by decide) dX0_islandsWith_38
    · refine z_aload_n rfl rfl dX0_islandsWith_10 ?_
      refine m_getR (39 + 7 * c) kf_X0_31 (zc0 (by omega)) rfl (zl_rc (by omega)).2.2.2.2.2 (by omega) dX0_islandsWith_11 ?_
      refine z_iload_n rfl rfl dX0_islandsWith_14 ?_
      refine m_zald (m) (zc6 (by omega)) rfl (by omega) (by decide) dX0_islandsWith_15 ?_
      refine z_if_eq 31 (by decide) dX0_islandsWith_16 (fun h3 => ?_) (fun h4 => ?_)
      · refine z_iinc (nI (m + 1)) rfl (zinc _) (by decide) rfl dX0_islandsWith_31 ?_
        refine z_goto 4 (by decide) dX0_islandsWith_34 ?_
        exact ih (20 - (m + 1)) (by omega) (m + 1) (s) rfl (by omega) (zst0 hs (by rw [cisl, if_neg (fun q => q.1 h3)]))
      · refine z_aload_n rfl rfl dX0_islandsWith_19 ?_
        refine m_getR (39 + 7 * d) kf_X0_31 (zc0 (by omega)) rfl (zl_rc (by omega)).2.2.2.2.2 (by omega) dX0_islandsWith_20 ?_
        refine z_iload_n rfl rfl dX0_islandsWith_23 ?_
        refine m_zald (m) (zc6 (by omega)) rfl (by omega) (by decide) dX0_islandsWith_24 ?_
        refine z_if_eq 31 (by decide) dX0_islandsWith_25 (fun h5 => ?_) (fun h6 => ?_)
        · refine z_iinc (nI (m + 1)) rfl (zinc _) (by decide) rfl dX0_islandsWith_31 ?_
          refine z_goto 4 (by decide) dX0_islandsWith_34 ?_
          exact ih (20 - (m + 1)) (by omega) (m + 1) (s) rfl (by omega) (zst0 hs (by rw [cisl, if_neg (fun q => q.2 h5)]))
        · refine z_iinc (s + 1) rfl rfl (by decide) rfl dX0_islandsWith_28 ?_
          refine z_iinc (nI (m + 1)) rfl (zinc _) (by decide) rfl dX0_islandsWith_31 ?_
          refine z_goto 4 (by decide) dX0_islandsWith_34 ?_
          exact ih (20 - (m + 1)) (by omega) (m + 1) (s + 1) rfl (by omega) (zst0 hs (by rw [cisl, if_pos ⟨h4, h6⟩]))
set_option maxRecDepth 100000 in
set_option maxHeartbeats 4000000 in
theorem ct_X0_islandsWith {E : Nat × (Nat → Int32)} {μ : Nat → Nat → Int32} {g : zLw} {c d : Nat} (hc : c < 12) (hd : d < 12) : zCt E kX0_islandsWith [.ref (33 + 7 * c), .ref (33 + 7 * d)] (zm μ g) (.inl (some (.int (zit (cisl μ c d) 0 20 (nI 0)))), zm μ g) := by
  refine zCt_of ko_X0_islandsWith (Nat.le_of_ble_eq_true rfl) (zas_r (zas_r zas_0)) ⟨Nat.le_refl _, fun h => absurd h (Nat.lt_irrefl _)⟩ (Nat.le_of_ble_eq_true rfl) ?_
  show zV false E kX0_islandsWith 116 _ 0 [.ref (33 + 7 * c), .ref (33 + 7 * d), .null, .null] [] (zm μ g) 0 0
  refine z_iconst (nI 0) (by decide) dX0_islandsWith_0 ?_
  refine z_istore_n rfl (by decide) rfl dX0_islandsWith_1 ?_
  refine z_iconst (nI 0) (by decide) dX0_islandsWith_2 ?_
  refine z_istore_n rfl (by decide) rfl dX0_islandsWith_3 ?_
  exact lp_X0_islandsWith hc hd _ 0 (nI 0) rfl (Nat.zero_le _) rfl
set_option maxRecDepth 100000 in
set_option maxHeartbeats 4000000 in
theorem ct_X0_islandCount {E : Nat × (Nat → Int32)} {μ : Nat → Nat → Int32} {g : zLw} {c : Nat} (hc : c < 12) : zCt E kX0_islandCount [.ref (33 + 7 * c)] (zm μ g) (.inl (some (.int (zit (cisl μ c c) 0 20 (nI 0)))), zm μ g) := by
  refine zCt_of ko_X0_islandCount (Nat.le_of_ble_eq_true rfl) (zas_r zas_0) ⟨Nat.le_refl _, fun h => absurd h (Nat.lt_irrefl _)⟩ (Nat.le_of_ble_eq_true rfl) ?_
  show zV false E kX0_islandCount 116 _ 0 [.ref (33 + 7 * c)] [] (zm μ g) 0 0
  refine z_aload_n rfl rfl dX0_islandCount_0 ?_
  refine z_aload_n rfl rfl dX0_islandCount_1 ?_
  refine z_callV (as := [.ref (33 + 7 * c)]) (ct_X0_islandsWith (c := c) (d := c) (by omega) (by omega)) ko_X0_islandsWith kl_X0_44 rfl (zc0 (by omega)) rfl rfl ⟨by decide, by decide, by decide, by decide⟩ (by decide) rfl dX0_islandCount_2 ?_
  exact z_iret (rfl) rfl (znarI _) (by decide) (by decide) dX0_islandCount_5
set_option maxRecDepth 100000 in
set_option maxHeartbeats 4000000 in
theorem lp_X7_falseNames {E : Nat × (Nat → Int32)} {g : zLw} {μ : zMu} {c : Nat} (hc : c < 12) : ∀ (n : Nat) (m : Nat) (s : Int32), 24 - m = n → m ≤ 24 → s = zit (cfal μ c) 0 m (nI 0) → zV false E kX7_falseNames 116 (.inl (some (.int (zit (cfal μ c) 0 24 (nI 0)))), zm μ g) 4 [.ref (1), .ref (33 + 7 * c), .int (s), .int (nI m)] [] (zm μ g) 0 0 := by
  intro n
  induction n using Nat.strongRecOn with
  | ind n ih =>
    intro m s hm hle hs 
    refine z_iload_n rfl rfl dX7_falseNames_4 ?_
    refine z_bipush (nI 24) (by decide) dX7_falseNames_5 ?_
    refine z_icmp_ge 28 (by decide) dX7_falseNames_7 (z_br (zcn (n := 24) (by omega) (m) (by omega)).2.2 (fun h1 => ?_)) (z_brn (zcn (n := 24) (by omega) (m) (by omega)).2.2 (fun h2 => ?_))
    · have hmL : m = 24 := by omega
      have hz : zit (cfal μ c) 0 24 (nI 0) = s := by rw [hs, hmL]
      refine z_iload_n rfl rfl dX7_falseNames_28 ?_
      exact z_iret (by rw [hz]) rfl (znarI _) (by decide) (by decide) dX7_falseNames_29
    · refine z_aload_n rfl rfl dX7_falseNames_10 ?_
      refine z_aload_n rfl rfl dX7_falseNames_11 ?_
      refine z_iload_n rfl rfl dX7_falseNames_12 ?_
      refine z_callV (as := [.ref (33 + 7 * c), .int (nI m)]) (ct_X7_hasTrueName (c := c) (p := m) (by omega) (by omega)) ko_X7_hasTrueName kl_X7_290 rfl (zl_a rfl rfl) rfl rfl ⟨by decide, by decide, by decide, by decide⟩ (by decide) rfl dX7_falseNames_13 ?_
      refine z_if_ne 22 (by decide) dX7_falseNames_16 (z_br zb_n (fun h3 => ?_)) (z_br zb_0 (fun h4 => ?_))
      · refine z_iinc (nI (m + 1)) rfl (zinc _) (by decide) rfl dX7_falseNames_22 ?_
        refine z_goto 4 (by decide) dX7_falseNames_25 ?_
        exact ih (24 - (m + 1)) (by omega) (m + 1) (s) rfl (by omega) (zst0 hs (by rw [cfal, if_pos h3]))
      · refine z_iinc (s + 1) rfl rfl (by decide) rfl dX7_falseNames_19 ?_
        refine z_iinc (nI (m + 1)) rfl (zinc _) (by decide) rfl dX7_falseNames_22 ?_
        refine z_goto 4 (by decide) dX7_falseNames_25 ?_
        exact ih (24 - (m + 1)) (by omega) (m + 1) (s + 1) rfl (by omega) (zst0 hs (by rw [cfal, if_neg h4]))
set_option maxRecDepth 100000 in
set_option maxHeartbeats 4000000 in
theorem ct_X7_falseNames {E : Nat × (Nat → Int32)} {μ : Nat → Nat → Int32} {g : zLw} {c : Nat} (hc : c < 12) : zCt E kX7_falseNames [.ref (1), .ref (33 + 7 * c)] (zm μ g) (.inl (some (.int (zit (cfal μ c) 0 24 (nI 0)))), zm μ g) := by
  refine zCt_of ko_X7_falseNames (Nat.le_of_ble_eq_true rfl) (zas_r (zas_r zas_0)) ⟨Nat.le_refl _, fun h => absurd h (Nat.lt_irrefl _)⟩ (Nat.le_of_ble_eq_true rfl) ?_
  show zV false E kX7_falseNames 116 _ 0 [.ref (1), .ref (33 + 7 * c), .null, .null] [] (zm μ g) 0 0
  refine z_iconst (nI 0) (by decide) dX7_falseNames_0 ?_
  refine z_istore_n rfl (by decide) rfl dX7_falseNames_1 ?_
  refine z_iconst (nI 0) (by decide) dX7_falseNames_2 ?_
  refine z_istore_n rfl (by decide) rfl dX7_falseNames_3 ?_
  exact lp_X7_falseNames hc _ 0 (nI 0) rfl (Nat.zero_le _) rfl
