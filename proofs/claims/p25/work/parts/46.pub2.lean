/-! the class: public methods (printed by wip/whole/gen_f2.py) -/
set_option maxRecDepth 100000 in
set_option maxHeartbeats 4000000 in
theorem lp2_X7_chart {E : Nat × (Nat → Int32)} {g : zLw} {μ : zMu} {c r : Nat} (hc : c < 12) {y : Int32} {O : zO} (kk : ∀ J : Value, J = .int (nI 3) → zV false E kX7_chart 116 O 122 [.ref 1, .int (nI r), .int y, .int (nI c), .ref (33 + 7 * c), .null] [] (zm (zit (cchs c) 0 3 μ) g) 1 6) : ∀ (n : Nat) (m : Nat) (ν : zMu), 3 - m = n → m ≤ 3 → ν = zit (cchs c) 0 m (μ) → zV false E kX7_chart 116 O 100 [.ref (1), .int (nI r), .int (y), .int (nI c), .ref (33 + 7 * c), .int (nI m)] [] (zm ν g) 1 6 := by
  intro n
  induction n using Nat.strongRecOn with
  | ind n ih =>
    intro m ν hm hle hs 
    refine z_iload rfl dX7_chart_100 ?_
    refine z_iconst (nI 3) (by decide) dX7_chart_102 ?_
    refine z_icmp_ge 122 (by decide) dX7_chart_103 (z_br (zcn (n := 3) (by omega) (m) (by omega)).2.2 (fun h1 => ?_)) (z_brn (zcn (n := 3) (by omega) (m) (by omega)).2.2 (fun h2 => ?_))
    · have hmL : m = 3 := by omega
      have hz : zit (cchs c) 0 3 (μ) = ν := by rw [hs, hmL]
      rw [hz] at kk
      refine z_fgt [.ref (1), .int (nI r), .int (y), .int (nI c), .ref (33 + 7 * c), .null] ⟨Or.inl rfl, ⟨Or.inl rfl, ⟨Or.inl rfl, ⟨Or.inl rfl, ⟨Or.inl rfl, ⟨Or.inr rfl, trivial⟩⟩⟩⟩⟩⟩ ?_
      exact kk _ rfl
    · refine z_aload rfl dX7_chart_106 ?_
      refine m_getR (38 + 7 * c) kf_X7_144 (zc0 (by omega)) rfl (zl_rc (by omega)).2.2.2.2.1 (by omega) dX7_chart_108 ?_
      refine z_iload rfl dX7_chart_111 ?_
      refine z_bipush (nI 100) (by decide) dX7_chart_113 ?_
      refine m_iast (m) (zc5 (by omega)) rfl (by omega) (by decide) dX7_chart_115 ?_
      refine z_iinc (nI (m + 1)) rfl (zinc _) (by decide) rfl dX7_chart_116 ?_
      refine z_goto 100 (by decide) dX7_chart_119 ?_
      exact ih (3 - (m + 1)) (by omega) (m + 1) (zu ν (38 + 7 * c) (m) (nI 100)) rfl (by omega) (zst0 hs (rfl))
set_option maxRecDepth 100000 in
set_option maxHeartbeats 4000000 in
theorem ct_X7_chart {E : Nat × (Nat → Int32)} {μ : Nat → Nat → Int32} {g : zLw} {nc : Nat} (hnc : μ 1 7 = nI nc) (hn12 : nc ≤ 12) {nr : Nat} (hnr : μ 10 4 = nI nr) (hr60 : nr ≤ 60) {r : Nat} (hr1 : 1 ≤ r) (hr2 : r ≤ nr) {y : Int32} {rf rt : Nat → Nat} (hft : zft μ nr rf rt) : zCt E kX7_chart [.ref (1), .int (nI r), .int (y)] (zm μ g) (if ¬ zyr y then (.inr xA, zm μ g) else if ¬ nc < 12 then (.inr xS, zm μ g) else (.inl (some (.int (nI nc))), zm (cchart rf rt nc r y μ) g) : zO) := by
  refine zCt_of ko_X7_chart (Nat.le_of_ble_eq_true rfl) (zas_r (zas_i (zas_i zas_0))) (zMM (zifn rfl (zifn rfl rfl))) (Nat.le_of_ble_eq_true rfl) ?_
  show zV false E kX7_chart 116 _ 0 [.ref (1), .int (nI r), .int (y), .null, .null, .null] [] (zm μ g) 0 0
  refine z_iload_n rfl rfl dX7_chart_0 ?_
  refine z_iconst (nI 1) (by decide) dX7_chart_1 ?_
  refine z_icmp_lt 23 (by decide) dX7_chart_2 (z_br (zcn (n := r) (by omega) (1) (by omega)).2.1 (fun h1 => ?_)) (z_brn (zcn (n := r) (by omega) (1) (by omega)).2.1 (fun h2 => ?_))
  · omega
  · refine z_iload_n rfl rfl dX7_chart_5 ?_
    refine z_aload_n rfl rfl dX7_chart_6 ?_
    refine m_getR (10) kf_X7_26 (zl_a rfl rfl) rfl rfl (by decide) dX7_chart_7 ?_
    refine m_getI kf_X7_84 (zl_a rfl rfl) rfl dX7_chart_10 ?_
    refine m_eqv (w := nI nr) (hnr) ?_
    refine z_icmp_gt 23 (by decide) dX7_chart_13 (z_br (zcn (n := nr) (by omega) (r) (by omega)).2.1 (fun h3 => ?_)) (z_brn (zcn (n := nr) (by omega) (r) (by omega)).2.1 (fun h4 => ?_))
    · omega
    · refine z_iload_n rfl rfl dX7_chart_16 ?_
      refine z_callS (as := [.int (y)]) (ct_X7_isYear (y)) ko_X7_isYear kl_X7_74 rfl rfl ⟨by decide, by decide, by decide, by decide⟩ (Nat.le_of_ble_eq_true rfl) rfl dX7_chart_17 ?_
      refine z_if_ne 33 (by decide) dX7_chart_20 (z_br zb_n (fun h5 => ?_)) (z_br zb_0 (fun h6 => ?_))
      · refine z_aload_n rfl rfl dX7_chart_33 ?_
        by_cases h7 : nc < 12
        · refine z_callV (as := []) (ct_X7_needRoomForChart hnc hn12 (by omega)) ko_X7_needRoomForChart kl_X7_135 rfl (zl_a rfl rfl) rfl rfl ⟨by decide, by decide, by decide, by decide⟩ (Nat.le_of_ble_eq_true rfl) rfl dX7_chart_34 ?_
          refine z_aload_n rfl rfl dX7_chart_37 ?_
          refine m_getI kf_X7_56 (zl_a rfl rfl) rfl dX7_chart_38 ?_
          refine m_eqv (w := nI nc) (hnc) ?_
          refine z_istore_n rfl (by decide) rfl dX7_chart_41 ?_
          refine z_aload_n rfl rfl dX7_chart_42 ?_
          refine m_getR (20) kf_X7_45 (zl_a rfl rfl) rfl rfl (by decide) dX7_chart_43 ?_
          refine z_iload_n rfl rfl dX7_chart_46 ?_
          refine m_aald (nc) (33 + 7 * nc) (by decide) (zl_a rfl rfl) rfl (by omega) (by decide) rfl (by omega) dX7_chart_47 ?_
          refine z_astore (by decide) rfl dX7_chart_48 ?_
          refine z_aload rfl dX7_chart_50 ?_
          refine z_iload_n rfl rfl dX7_chart_52 ?_
          refine m_putI kf_X7_138 (zc0 (by omega)) rfl dX7_chart_53 ?_
          refine z_iconst (nI 0) (by decide) dX7_chart_56 ?_
          refine z_istore (by decide) rfl dX7_chart_57 ?_
          refine lp1_X7_chart (c := nc) (by omega) (fun J hJ => ?_) _ 0 _ rfl (Nat.zero_le _) rfl
          refine z_iconst (nI 0) (by decide) dX7_chart_97 ?_
          refine z_istore (by decide) rfl dX7_chart_98 ?_
          refine lp2_X7_chart (c := nc) (by omega) (fun J hJ => ?_) _ 0 _ rfl (Nat.zero_le _) rfl
          show zV false E kX7_chart 116 _ 122 [.ref (1), .int (nI r), .int (y), .int (nI nc), .ref (33 + 7 * nc), .null] [] (zm (cch0 nc y μ) g) 1 6
          refine z_aload rfl dX7_chart_122 ?_
          refine z_iconst (nI 0) (by decide) dX7_chart_124 ?_
          refine z_aload_n rfl rfl dX7_chart_125 ?_
          refine m_getR (2) kf_X7_10 (zl_a rfl rfl) rfl rfl (by decide) dX7_chart_126 ?_
          refine m_getR (3) kf_X7_92 (zl_a rfl rfl) rfl rfl (by decide) dX7_chart_129 ?_
          refine z_iconst (nI 0) (by decide) dX7_chart_132 ?_
          refine m_iald (0) (zl_a rfl rfl) rfl (by omega) (by decide) dX7_chart_133 ?_
          refine z_aload_n rfl rfl dX7_chart_134 ?_
          refine m_getR (2) kf_X7_10 (zl_a rfl rfl) rfl rfl (by decide) dX7_chart_135 ?_
          refine m_getR (4) kf_X7_96 (zl_a rfl rfl) rfl rfl (by decide) dX7_chart_138 ?_
          refine z_iconst (nI 0) (by decide) dX7_chart_141 ?_
          refine m_iald (0) (zl_a rfl rfl) rfl (by omega) (by decide) dX7_chart_142 ?_
          refine z_iconst (-1) (by decide) dX7_chart_143 ?_
          refine z_callV (as := [.int (nI 0), .int ((cch0 nc y μ) (3) (0)), .int ((cch0 nc y μ) (4) (0)), .int (-1)]) (ct_X0_put (c := nc) (p := 0) (by omega) (by omega) ((cch0 nc y μ) (3) (0)) ((cch0 nc y μ) (4) (0)) (-1)) ko_X0_put kl_X7_147 rfl (zc0 (by omega)) rfl rfl ⟨by decide, by decide, by decide, by decide⟩ (Nat.le_of_ble_eq_true rfl) rfl dX7_chart_144 ?_
          refine z_aload_n rfl rfl dX7_chart_147 ?_
          refine z_aload rfl dX7_chart_148 ?_
          refine z_iload_n rfl rfl dX7_chart_150 ?_
          refine z_callV (as := [.ref (33 + 7 * nc), .int (nI r)]) (ct_X7_layOut (c := nc) (r := r) (by omega) (by omega) (zft_k (μ := μ) (fun i hi => hft i (by omega)) (cch1_o (by omega)) (cch1_o (by omega)))) ko_X7_layOut kl_X7_151 rfl (zl_a rfl rfl) rfl rfl ⟨by decide, by decide, by decide, by decide⟩ (Nat.le_of_ble_eq_true rfl) rfl dX7_chart_151 ?_
          refine z_aload_n rfl rfl dX7_chart_154 ?_
          refine z_iload_n rfl rfl dX7_chart_155 ?_
          refine z_iconst (nI 1) (by decide) dX7_chart_156 ?_
          refine m_addN dX7_chart_157 ?_
          refine m_putI kf_X7_56 (zl_a rfl rfl) rfl dX7_chart_158 ?_
          refine z_iload_n rfl rfl dX7_chart_161 ?_
          exact z_iret ((if_neg (fun q => q (by assumption))).trans ((if_neg (fun q => q (by assumption))).trans (rfl))) rfl (znarI _) (by decide) (by decide) dX7_chart_162
        · refine z_callVx (as := []) (ctx_X7_needRoomForChart hnc hn12 h7) ko_X7_needRoomForChart kl_X7_135 rfl (zl_a rfl rfl) rfl rfl ⟨by decide, by decide, by decide, by decide⟩ (Nat.le_of_ble_eq_true rfl) rfl dX7_chart_34 ?_
          exact zX_out ((if_neg (fun q => q (by assumption))).trans ((if_pos (by assumption)).trans (rfl))) rfl (by decide) (by decide)
      · exact z_throw (text := "reports or year is out of range") ((if_pos (by assumption)).trans (rfl)) kt_77 (by decide +kernel) rfl (by decide) (Nat.le_of_ble_eq_true rfl) (by decide) (by decide) dX7_chart_23 dX7_chart_26 dX7_chart_27 dX7_chart_29 dX7_chart_32
set_option maxRecDepth 100000 in
set_option maxHeartbeats 4000000 in
theorem ct_X7_hand {E : Nat × (Nat → Int32)} {μ : Nat → Nat → Int32} {g : zLw} {q : Nat} (hq : q < 4) {h : Int32} : zCt E kX7_hand [.ref (1), .int (nI q), .int (h)] (zm μ g) (if ¬ zin h (nI 9) then (.inr xA, zm μ g) else (.inl (some (.int (μ (25 + 2 * q) 0))), zm (zu μ (25 + 2 * q) 0 h) g) : zO) := by
  refine zCt_of ko_X7_hand (Nat.le_of_ble_eq_true rfl) (zas_r (zas_i (zas_i zas_0))) (zMM (zifn rfl rfl)) (Nat.le_of_ble_eq_true rfl) ?_
  show zV false E kX7_hand 116 _ 0 [.ref (1), .int (nI q), .int (h), .null, .null] [] (zm μ g) 0 0
  refine z_aload_n rfl rfl dX7_hand_0 ?_
  refine z_iload_n rfl rfl dX7_hand_1 ?_
  refine z_callV (as := [.int (nI q)]) (ct_X7_copyistOf (c := q) (by omega)) ko_X7_copyistOf kl_X7_155 rfl (zl_a rfl rfl) rfl rfl ⟨by decide, by decide, by decide, by decide⟩ (Nat.le_of_ble_eq_true rfl) rfl dX7_hand_2 ?_
  refine z_astore_n rfl (by decide) rfl dX7_hand_5 ?_
  refine z_iload_n rfl rfl dX7_hand_6 ?_
  refine z_bipush (nI 9) (by decide) dX7_hand_7 ?_
  refine z_callS (as := [.int (h), .int (nI 9)]) (ct_X7_isWithin (h) (nI 9)) ko_X7_isWithin kl_X7_66 rfl rfl ⟨by decide, by decide, by decide, by decide⟩ (Nat.le_of_ble_eq_true rfl) rfl dX7_hand_9 ?_
  refine z_if_ne 25 (by decide) dX7_hand_12 (z_br zb_n (fun h1 => ?_)) (z_br zb_0 (fun h2 => ?_))
  · refine z_aload_n rfl rfl dX7_hand_25 ?_
    refine m_getI kf_X7_161 (zy0 (by omega)) rfl dX7_hand_26 ?_
    refine z_istore (by decide) rfl dX7_hand_29 ?_
    refine z_aload_n rfl rfl dX7_hand_31 ?_
    refine z_iload_n rfl rfl dX7_hand_32 ?_
    refine m_putI kf_X7_161 (zy0 (by omega)) rfl dX7_hand_33 ?_
    refine z_iload rfl dX7_hand_36 ?_
    exact z_iret ((if_neg (fun q => q (by assumption))).trans (rfl)) rfl (znarI _) (by decide) (by decide) dX7_hand_38
  · exact z_throw (text := "hand is out of range") ((if_pos (by assumption)).trans (rfl)) kt_77 (by decide +kernel) rfl (by decide) (Nat.le_of_ble_eq_true rfl) (by decide) (by decide) dX7_hand_15 dX7_hand_18 dX7_hand_19 dX7_hand_21 dX7_hand_24
set_option maxRecDepth 100000 in
set_option maxHeartbeats 4000000 in
theorem ct_X7_reads {E : Nat × (Nat → Int32)} {μ : Nat → Nat → Int32} {g : zLw} {q : Nat} (hq : q < 4) {a w : Int32} : zCt E kX7_reads [.ref (1), .int (nI q), .int (a), .int (w)] (zm μ g) (if ¬ (znm a ∧ znm w) then (.inr xA, zm μ g) else (.inl none, zm (zu μ (26 + 2 * q) a.toNatClampNeg w) g) : zO) := by
  refine zCt_of ko_X7_reads (Nat.le_of_ble_eq_true rfl) (zas_r (zas_i (zas_i (zas_i zas_0)))) (zMM (zifn rfl rfl)) (Nat.le_of_ble_eq_true rfl) ?_
  show zV false E kX7_reads 116 _ 0 [.ref (1), .int (nI q), .int (a), .int (w), .null] [] (zm μ g) 0 0
  refine z_aload_n rfl rfl dX7_reads_0 ?_
  refine z_iload_n rfl rfl dX7_reads_1 ?_
  refine z_callV (as := [.int (nI q)]) (ct_X7_copyistOf (c := q) (by omega)) ko_X7_copyistOf kl_X7_155 rfl (zl_a rfl rfl) rfl rfl ⟨by decide, by decide, by decide, by decide⟩ (Nat.le_of_ble_eq_true rfl) rfl dX7_reads_2 ?_
  refine z_astore (by decide) rfl dX7_reads_5 ?_
  refine z_iload_n rfl rfl dX7_reads_7 ?_
  refine z_callS (as := [.int (a)]) (ct_X7_isName (a)) ko_X7_isName kl_X7_70 rfl rfl ⟨by decide, by decide, by decide, by decide⟩ (Nat.le_of_ble_eq_true rfl) rfl dX7_reads_8 ?_
  refine z_if_eq 21 (by decide) dX7_reads_11 (z_br zb_0 (fun h1 => ?_)) (z_br zb_n (fun h2 => ?_))
  · exact z_throw (text := "name or as is out of range") ((if_pos (fun q => by first | exact absurd q.1 (by assumption) | exact q.1 (by assumption) | exact absurd q.2 (by assumption) | exact q.2 (by assumption))).trans (rfl)) kt_77 (by decide +kernel) rfl (by decide) (Nat.le_of_ble_eq_true rfl) (by decide) (by decide) dX7_reads_21 dX7_reads_24 dX7_reads_25 dX7_reads_27 dX7_reads_30
  · refine z_iload_n rfl rfl dX7_reads_14 ?_
    refine z_callS (as := [.int (w)]) (ct_X7_isName (w)) ko_X7_isName kl_X7_70 rfl rfl ⟨by decide, by decide, by decide, by decide⟩ (Nat.le_of_ble_eq_true rfl) rfl dX7_reads_15 ?_
    refine z_if_ne 31 (by decide) dX7_reads_18 (z_br zb_n (fun h3 => ?_)) (z_br zb_0 (fun h4 => ?_))
    · refine z_aload rfl dX7_reads_31 ?_
      refine m_getR (26 + 2 * q) kf_X7_166 (zy0 (by omega)) rfl (zl_ry (by omega)) (by omega) dX7_reads_33 ?_
      refine z_iload_n rfl rfl dX7_reads_36 ?_
      refine z_iload_n rfl rfl dX7_reads_37 ?_
      obtain ⟨jn, hj99, hjn⟩ := znm_of (v := a) (by assumption)
      refine m_iast (jn) (zy1 (by omega)) hjn (by omega) (by decide) dX7_reads_38 ?_
      exact z_vret ((if_neg (fun q => q ⟨by assumption, by assumption⟩)).trans (by rw [hjn, nI_clamp (by omega)])) rfl (by decide) (by decide) dX7_reads_39
    · exact z_throw (text := "name or as is out of range") ((if_pos (fun q => by first | exact absurd q.1 (by assumption) | exact q.1 (by assumption) | exact absurd q.2 (by assumption) | exact q.2 (by assumption))).trans (rfl)) kt_77 (by decide +kernel) rfl (by decide) (Nat.le_of_ble_eq_true rfl) (by decide) (by decide) dX7_reads_21 dX7_reads_24 dX7_reads_25 dX7_reads_27 dX7_reads_30
set_option maxRecDepth 100000 in
set_option maxHeartbeats 4000000 in
theorem lp_X7_copy {E : Nat × (Nat → Int32)} {g : zLw} {μ : zMu} {c d k : Nat} (hc : c < 12) (hd : d < 12) (hcd : c ≠ d) (hk : k < 4) {way y : Int32} {nm : Nat → Nat} (hnm : ∀ i, i < 24 → μ (36 + 7 * c) i = nI (nm i) ∧ 1 ≤ nm i ∧ nm i < 100) {O : zO} (kk : zV false E kX7_copy 116 O 185 [.ref (1), .int (nI c), .int (nI k), .int (way), .int (y), .ref (33 + 7 * c), .ref (25 + 2 * k), .int (nI d), .ref (33 + 7 * d), .null, .null, .null] [] (zm (zit (ccp c d k nm way) 0 24 μ) g) 3 18) : ∀ (n : Nat) (m : Nat) (ν : zMu), 24 - m = n → m ≤ 24 → ν = zit (ccp c d k nm way) 0 m (μ) → zV false E kX7_copy 116 O 80 [.ref (1), .int (nI c), .int (nI k), .int (way), .int (y), .ref (33 + 7 * c), .ref (25 + 2 * k), .int (nI d), .ref (33 + 7 * d), .int (nI m), .null, .null] [] (zm ν g) 3 18 := by
  intro n
  induction n using Nat.strongRecOn with
  | ind n ih =>
    intro m ν hm hle hs 
    refine z_iload rfl dX7_copy_80 ?_
    refine z_bipush (nI 24) (by decide) dX7_copy_82 ?_
    refine z_icmp_ge 185 (by decide) dX7_copy_84 (z_br (zcn (n := 24) (by omega) (m) (by omega)).2.2 (fun h1 => ?_)) (z_brn (zcn (n := 24) (by omega) (m) (by omega)).2.2 (fun h2 => ?_))
    · have hmL : m = 24 := by omega
      have hz : zit (ccp c d k nm way) 0 24 (μ) = ν := by rw [hs, hmL]
      rw [hz] at kk
      refine z_fgt [.ref (1), .int (nI c), .int (nI k), .int (way), .int (y), .ref (33 + 7 * c), .ref (25 + 2 * k), .int (nI d), .ref (33 + 7 * d), .null, .null, .null] ⟨Or.inl rfl, ⟨Or.inl rfl, ⟨Or.inl rfl, ⟨Or.inl rfl, ⟨Or.inl rfl, ⟨Or.inl rfl, ⟨Or.inl rfl, ⟨Or.inl rfl, ⟨Or.inl rfl, ⟨Or.inr rfl, ⟨Or.inl rfl, ⟨Or.inl rfl, trivial⟩⟩⟩⟩⟩⟩⟩⟩⟩⟩⟩⟩ ?_
      exact kk
    · have hn9 : ν (36 + 7 * c) m = nI (nm m) := by rw [hs, zit_keep (ccp_o (by omega) (by omega))]; exact (hnm m (by omega)).1
      have hn1 := (hnm m (by omega)).2.1
      have hn2 := (hnm m (by omega)).2.2
      refine z_aload rfl dX7_copy_87 ?_
      refine m_getR (36 + 7 * d) kf_X7_143 (zc0 (by omega)) rfl (zl_rc (by omega)).2.2.1 (by omega) dX7_copy_89 ?_
      refine z_iload rfl dX7_copy_92 ?_
      refine z_aload rfl dX7_copy_94 ?_
      refine z_aload rfl dX7_copy_96 ?_
      refine m_getR (36 + 7 * c) kf_X7_143 (zc0 (by omega)) rfl (zl_rc (by omega)).2.2.1 (by omega) dX7_copy_98 ?_
      refine z_iload rfl dX7_copy_101 ?_
      refine m_iald (m) (zc3 (by omega)) rfl (by omega) (by decide) dX7_copy_103 ?_
      refine m_eqv (w := nI (nm m)) (hn9) ?_
      refine z_callV (as := [.int (nI (nm m))]) (ct_X2_readingOf (c := k) (by omega) (j := nm m) (by omega) (by omega)) ko_X2_readingOf kl_X7_175 rfl (zy0 (by omega)) rfl rfl ⟨by decide, by decide, by decide, by decide⟩ (Nat.le_of_ble_eq_true rfl) rfl dX7_copy_104 ?_
      refine m_iast (m) (zc3 (by omega)) rfl (by omega) (by decide) dX7_copy_107 ?_
      refine z_aload rfl dX7_copy_108 ?_
      refine z_iload rfl dX7_copy_110 ?_
      refine z_callV (as := [.int (nI m)]) (ct_X0_knows (c := c) (p := m) (by omega) (by omega)) ko_X0_knows kl_X7_179 rfl (zc0 (by omega)) rfl rfl ⟨by decide, by decide, by decide, by decide⟩ (Nat.le_of_ble_eq_true rfl) rfl dX7_copy_112 ?_
      refine z_if_eq 172 (by decide) dX7_copy_115 (z_br zb_0 (fun h3 => ?_)) (z_br zb_n (fun h4 => ?_))
      · refine z_aload rfl dX7_copy_172 ?_
        refine z_iload rfl dX7_copy_174 ?_
        refine z_callV (as := [.int (nI m)]) (ct_X0_forget (c := d) (p := m) (by omega) (by omega)) ko_X0_forget kl_X7_140 rfl (zc0 (by omega)) rfl rfl ⟨by decide, by decide, by decide, by decide⟩ (Nat.le_of_ble_eq_true rfl) rfl dX7_copy_176 ?_
        refine z_iinc (nI (m + 1)) rfl (zinc _) (by decide) rfl dX7_copy_179 ?_
        refine z_goto 80 (by decide) dX7_copy_182 ?_
        exact ih (24 - (m + 1)) (by omega) (m + 1) (zput (zu ν (36 + 7 * d) (m) (ν (26 + 2 * k) (nm m))) d m 100000 100000 (-1)) rfl (by omega) (zst0 hs (by unfold ccp ccpn; exact (if_neg h3).symm))
      · refine z_aload rfl dX7_copy_118 ?_
        refine m_getR (34 + 7 * c) kf_X7_182 (zc0 (by omega)) rfl (zl_rc (by omega)).1 (by omega) dX7_copy_120 ?_
        refine z_iload rfl dX7_copy_123 ?_
        refine m_iald (m) (zc1 (by omega)) rfl (by omega) (by decide) dX7_copy_125 ?_
        refine z_iload_n rfl rfl dX7_copy_126 ?_
        refine z_aload rfl dX7_copy_127 ?_
        refine m_getI kf_X7_161 (zy0 (by omega)) rfl dX7_copy_129 ?_
        refine z_callS (as := [.int ((zu ν (36 + 7 * d) (m) (ν (26 + 2 * k) (nm m))) (34 + 7 * c) (m)), .int (way), .int ((zu ν (36 + 7 * d) (m) (ν (26 + 2 * k) (nm m))) (25 + 2 * k) (0))]) (ct_X7_drawn ((zu ν (36 + 7 * d) (m) (ν (26 + 2 * k) (nm m))) (34 + 7 * c) (m)) (way) ((zu ν (36 + 7 * d) (m) (ν (26 + 2 * k) (nm m))) (25 + 2 * k) (0))) ko_X7_drawn kl_X7_183 rfl rfl ⟨by decide, by decide, by decide, by decide⟩ (Nat.le_of_ble_eq_true rfl) rfl dX7_copy_132 ?_
        refine z_istore (by decide) rfl dX7_copy_135 ?_
        refine z_aload rfl dX7_copy_137 ?_
        refine m_getR (35 + 7 * c) kf_X7_187 (zc0 (by omega)) rfl (zl_rc (by omega)).2.1 (by omega) dX7_copy_139 ?_
        refine z_iload rfl dX7_copy_142 ?_
        refine m_iald (m) (zc2 (by omega)) rfl (by omega) (by decide) dX7_copy_144 ?_
        refine z_iload_n rfl rfl dX7_copy_145 ?_
        refine z_aload rfl dX7_copy_146 ?_
        refine m_getI kf_X7_161 (zy0 (by omega)) rfl dX7_copy_148 ?_
        refine z_ineg dX7_copy_151 ?_
        refine z_callS (as := [.int ((zu ν (36 + 7 * d) (m) (ν (26 + 2 * k) (nm m))) (35 + 7 * c) (m)), .int (way), .int (-((zu ν (36 + 7 * d) (m) (ν (26 + 2 * k) (nm m))) (25 + 2 * k) (0)))]) (ct_X7_drawn ((zu ν (36 + 7 * d) (m) (ν (26 + 2 * k) (nm m))) (35 + 7 * c) (m)) (way) (-((zu ν (36 + 7 * d) (m) (ν (26 + 2 * k) (nm m))) (25 + 2 * k) (0)))) ko_X7_drawn kl_X7_183 rfl rfl ⟨by decide, by decide, by decide, by decide⟩ (Nat.le_of_ble_eq_true rfl) rfl dX7_copy_152 ?_
        refine z_istore (by decide) rfl dX7_copy_155 ?_
        refine z_aload rfl dX7_copy_157 ?_
        refine z_iload rfl dX7_copy_159 ?_
        refine z_iload rfl dX7_copy_161 ?_
        refine z_iload rfl dX7_copy_163 ?_
        refine z_iload_n rfl rfl dX7_copy_165 ?_
        refine z_callV (as := [.int (nI m), .int (zdraw ((zu ν (36 + 7 * d) (m) (ν (26 + 2 * k) (nm m))) (34 + 7 * c) (m)) (way) ((zu ν (36 + 7 * d) (m) (ν (26 + 2 * k) (nm m))) (25 + 2 * k) (0))), .int (zdraw ((zu ν (36 + 7 * d) (m) (ν (26 + 2 * k) (nm m))) (35 + 7 * c) (m)) (way) (-((zu ν (36 + 7 * d) (m) (ν (26 + 2 * k) (nm m))) (25 + 2 * k) (0)))), .int (nI c)]) (ct_X0_put (c := d) (p := m) (by omega) (by omega) (zdraw ((zu ν (36 + 7 * d) (m) (ν (26 + 2 * k) (nm m))) (34 + 7 * c) (m)) (way) ((zu ν (36 + 7 * d) (m) (ν (26 + 2 * k) (nm m))) (25 + 2 * k) (0))) (zdraw ((zu ν (36 + 7 * d) (m) (ν (26 + 2 * k) (nm m))) (35 + 7 * c) (m)) (way) (-((zu ν (36 + 7 * d) (m) (ν (26 + 2 * k) (nm m))) (25 + 2 * k) (0)))) (nI c)) ko_X0_put kl_X7_147 rfl (zc0 (by omega)) rfl rfl ⟨by decide, by decide, by decide, by decide⟩ (Nat.le_of_ble_eq_true rfl) rfl dX7_copy_166 ?_
        refine z_goto 179 (by decide) dX7_copy_169 ?_
        refine z_iinc (nI (m + 1)) rfl (zinc _) (by decide) rfl dX7_copy_179 ?_
        refine z_goto 80 (by decide) dX7_copy_182 ?_
        refine z_fgt [.ref (1), .int (nI c), .int (nI k), .int (way), .int (y), .ref (33 + 7 * c), .ref (25 + 2 * k), .int (nI d), .ref (33 + 7 * d), .int (nI (m + 1)), .null, .null] ⟨Or.inl rfl, ⟨Or.inl rfl, ⟨Or.inl rfl, ⟨Or.inl rfl, ⟨Or.inl rfl, ⟨Or.inl rfl, ⟨Or.inl rfl, ⟨Or.inl rfl, ⟨Or.inl rfl, ⟨Or.inl rfl, ⟨Or.inr rfl, ⟨Or.inr rfl, trivial⟩⟩⟩⟩⟩⟩⟩⟩⟩⟩⟩⟩ ?_
        exact ih (24 - (m + 1)) (by omega) (m + 1) (zput (zu ν (36 + 7 * d) (m) (ν (26 + 2 * k) (nm m))) d m (zdraw ((zu ν (36 + 7 * d) (m) (ν (26 + 2 * k) (nm m))) (34 + 7 * c) (m)) (way) ((zu ν (36 + 7 * d) (m) (ν (26 + 2 * k) (nm m))) (25 + 2 * k) (0))) (zdraw ((zu ν (36 + 7 * d) (m) (ν (26 + 2 * k) (nm m))) (35 + 7 * c) (m)) (way) (-((zu ν (36 + 7 * d) (m) (ν (26 + 2 * k) (nm m))) (25 + 2 * k) (0)))) (nI c)) rfl (by omega) (zst0 hs (by unfold ccp ccpn; exact (if_pos h4).symm))
set_option maxRecDepth 100000 in
set_option maxHeartbeats 4000000 in
theorem ct_X7_copy {E : Nat × (Nat → Int32)} {μ : Nat → Nat → Int32} {g : zLw} {nc : Nat} (hnc : μ 1 7 = nI nc) (hn12 : nc ≤ 12) {c k : Nat} (hc : c < nc) (hk : k < 4) {way y : Int32} {nm : Nat → Nat} (hnm : ∀ i, i < 24 → μ (36 + 7 * c) i = nI (nm i) ∧ 1 ≤ nm i ∧ nm i < 100) (hB0 : ∀ i, i < 20 → μ (39 + 7 * c) i = 0 ∨ μ (39 + 7 * c) i = 1) : zCt E kX7_copy [.ref (1), .int (nI c), .int (nI k), .int (way), .int (y)] (zm μ g) (if ¬ (¬ way < 0 ∧ ¬ nI 2 < way ∧ zyr y ∧ μ (33 + 7 * c) 0 ≤ y) then (.inr xA, zm μ g) else if ¬ nc < 12 then (.inr xS, zm μ g) else (.inl (some (.int (nI nc))), zm (ccopy c nc k nm way y μ) g) : zO) := by
  refine zCt_of ko_X7_copy (Nat.le_of_ble_eq_true rfl) (zas_r (zas_i (zas_i (zas_i (zas_i zas_0))))) (zMM (zifn rfl (zifn rfl rfl))) (Nat.le_of_ble_eq_true rfl) ?_
  show zV false E kX7_copy 116 _ 0 [.ref (1), .int (nI c), .int (nI k), .int (way), .int (y), .null, .null, .null, .null, .null, .null, .null] [] (zm μ g) 0 0
  refine z_aload_n rfl rfl dX7_copy_0 ?_
  refine z_iload_n rfl rfl dX7_copy_1 ?_
  refine z_callV (as := [.int (nI c)]) (ct_X7_chartOf hnc hn12 (c := c) (by omega)) ko_X7_chartOf kl_X7_169 rfl (zl_a rfl rfl) rfl rfl ⟨by decide, by decide, by decide, by decide⟩ (Nat.le_of_ble_eq_true rfl) rfl dX7_copy_2 ?_
  refine z_astore (by decide) rfl dX7_copy_5 ?_
  refine z_aload_n rfl rfl dX7_copy_7 ?_
  refine z_iload_n rfl rfl dX7_copy_8 ?_
  refine z_callV (as := [.int (nI k)]) (ct_X7_copyistOf (c := k) (by omega)) ko_X7_copyistOf kl_X7_155 rfl (zl_a rfl rfl) rfl rfl ⟨by decide, by decide, by decide, by decide⟩ (Nat.le_of_ble_eq_true rfl) rfl dX7_copy_9 ?_
  refine z_astore (by decide) rfl dX7_copy_12 ?_
  refine z_iload_n rfl rfl dX7_copy_14 ?_
  refine z_if_lt 41 (by decide) dX7_copy_15 (fun h1 => ?_) (fun h2 => ?_)
  · exact z_throw (text := "way or year is out of range") ((if_pos (fun q => by first | exact absurd q.1 (by assumption) | exact q.1 (by assumption) | exact absurd q.2.1 (by assumption) | exact q.2.1 (by assumption) | exact absurd q.2.2.1 (by assumption) | exact q.2.2.1 (by assumption) | exact absurd q.2.2.2 (by assumption) | exact q.2.2.2 (by assumption))).trans (rfl)) kt_77 (by decide +kernel) rfl (by decide) (Nat.le_of_ble_eq_true rfl) (by decide) (by decide) dX7_copy_41 dX7_copy_44 dX7_copy_45 dX7_copy_47 dX7_copy_50
  · refine z_iload_n rfl rfl dX7_copy_18 ?_
    refine z_iconst (nI 2) (by decide) dX7_copy_19 ?_
    refine z_icmp_gt 41 (by decide) dX7_copy_20 (fun h3 => ?_) (fun h4 => ?_)
    · exact z_throw (text := "way or year is out of range") ((if_pos (fun q => by first | exact absurd q.1 (by assumption) | exact q.1 (by assumption) | exact absurd q.2.1 (by assumption) | exact q.2.1 (by assumption) | exact absurd q.2.2.1 (by assumption) | exact q.2.2.1 (by assumption) | exact absurd q.2.2.2 (by assumption) | exact q.2.2.2 (by assumption))).trans (rfl)) kt_77 (by decide +kernel) rfl (by decide) (Nat.le_of_ble_eq_true rfl) (by decide) (by decide) dX7_copy_41 dX7_copy_44 dX7_copy_45 dX7_copy_47 dX7_copy_50
    · refine z_iload rfl dX7_copy_23 ?_
      refine z_callS (as := [.int (y)]) (ct_X7_isYear (y)) ko_X7_isYear kl_X7_74 rfl rfl ⟨by decide, by decide, by decide, by decide⟩ (Nat.le_of_ble_eq_true rfl) rfl dX7_copy_25 ?_
      refine z_if_eq 41 (by decide) dX7_copy_28 (z_br zb_0 (fun h5 => ?_)) (z_br zb_n (fun h6 => ?_))
      · exact z_throw (text := "way or year is out of range") ((if_pos (fun q => by first | exact absurd q.1 (by assumption) | exact q.1 (by assumption) | exact absurd q.2.1 (by assumption) | exact q.2.1 (by assumption) | exact absurd q.2.2.1 (by assumption) | exact q.2.2.1 (by assumption) | exact absurd q.2.2.2 (by assumption) | exact q.2.2.2 (by assumption))).trans (rfl)) kt_77 (by decide +kernel) rfl (by decide) (Nat.le_of_ble_eq_true rfl) (by decide) (by decide) dX7_copy_41 dX7_copy_44 dX7_copy_45 dX7_copy_47 dX7_copy_50
      · refine z_iload rfl dX7_copy_31 ?_
        refine z_aload rfl dX7_copy_33 ?_
        refine m_getI kf_X7_138 (zc0 (by omega)) rfl dX7_copy_35 ?_
        refine z_icmp_ge 51 (by decide) dX7_copy_38 (fun h7 => ?_) (fun h8 => ?_)
        · refine z_aload_n rfl rfl dX7_copy_51 ?_
          by_cases h9 : nc < 12
          · refine z_callV (as := []) (ct_X7_needRoomForChart hnc hn12 (by omega)) ko_X7_needRoomForChart kl_X7_135 rfl (zl_a rfl rfl) rfl rfl ⟨by decide, by decide, by decide, by decide⟩ (Nat.le_of_ble_eq_true rfl) rfl dX7_copy_52 ?_
            refine z_aload_n rfl rfl dX7_copy_55 ?_
            refine m_getI kf_X7_56 (zl_a rfl rfl) rfl dX7_copy_56 ?_
            refine m_eqv (w := nI nc) (hnc) ?_
            refine z_istore (by decide) rfl dX7_copy_59 ?_
            refine z_aload_n rfl rfl dX7_copy_61 ?_
            refine m_getR (20) kf_X7_45 (zl_a rfl rfl) rfl rfl (by decide) dX7_copy_62 ?_
            refine z_iload rfl dX7_copy_65 ?_
            refine m_aald (nc) (33 + 7 * nc) (by decide) (zl_a rfl rfl) rfl (by omega) (by decide) rfl (by omega) dX7_copy_67 ?_
            refine z_astore (by decide) rfl dX7_copy_68 ?_
            refine z_aload rfl dX7_copy_70 ?_
            refine z_iload rfl dX7_copy_72 ?_
            refine m_putI kf_X7_138 (zc0 (by omega)) rfl dX7_copy_74 ?_
            refine z_iconst (nI 0) (by decide) dX7_copy_77 ?_
            refine z_istore (by decide) rfl dX7_copy_78 ?_
            refine z_fgt [.ref (1), .int (nI c), .int (nI k), .int (way), .int (y), .ref (33 + 7 * c), .ref (25 + 2 * k), .int (nI nc), .ref (33 + 7 * nc), .int (nI 0), .null, .null] ⟨Or.inl rfl, ⟨Or.inl rfl, ⟨Or.inl rfl, ⟨Or.inl rfl, ⟨Or.inl rfl, ⟨Or.inl rfl, ⟨Or.inl rfl, ⟨Or.inl rfl, ⟨Or.inl rfl, ⟨Or.inl rfl, ⟨Or.inl rfl, ⟨Or.inl rfl, trivial⟩⟩⟩⟩⟩⟩⟩⟩⟩⟩⟩⟩ ?_
            refine lp_X7_copy (c := c) (d := nc) (k := k) (by omega) (by omega) (by omega) (by omega) (nm := nm) (μ := zu μ (33 + 7 * nc) 0 y) (fun i hi => by rw [zu_r (by omega)]; exact hnm i hi) ?_ _ 0 _ rfl (Nat.zero_le _) rfl
            refine z_aload rfl dX7_copy_185 ?_
            refine z_aload rfl dX7_copy_187 ?_
            refine z_callV (as := [.ref (33 + 7 * c)]) (ct_X0_takeFrame (c := nc) (d := c) (by omega) (by omega) (by omega) (fun i hi => by rw [zit_keep (ccp_o (by omega) (by omega)), zu_r (by omega)]; exact hB0 i hi)) ko_X0_takeFrame kl_X7_188 rfl (zc0 (by omega)) rfl rfl ⟨by decide, by decide, by decide, by decide⟩ (Nat.le_of_ble_eq_true rfl) rfl dX7_copy_189 ?_
            refine z_aload_n rfl rfl dX7_copy_192 ?_
            refine z_iload rfl dX7_copy_193 ?_
            refine z_iconst (nI 1) (by decide) dX7_copy_195 ?_
            refine m_addN dX7_copy_196 ?_
            refine m_putI kf_X7_56 (zl_a rfl rfl) rfl dX7_copy_197 ?_
            refine z_iload rfl dX7_copy_200 ?_
            exact z_iret ((if_neg (fun q => q ⟨by assumption, by assumption, by assumption, by assumption⟩)).trans ((if_neg (fun q => q (by assumption))).trans (rfl))) rfl (znarI _) (by decide) (by decide) dX7_copy_202
          · refine z_callVx (as := []) (ctx_X7_needRoomForChart hnc hn12 h9) ko_X7_needRoomForChart kl_X7_135 rfl (zl_a rfl rfl) rfl rfl ⟨by decide, by decide, by decide, by decide⟩ (Nat.le_of_ble_eq_true rfl) rfl dX7_copy_52 ?_
            exact zX_out ((if_neg (fun q => q ⟨by assumption, by assumption, by assumption, by assumption⟩)).trans ((if_pos (by assumption)).trans (rfl))) rfl (by decide) (by decide)
        · exact z_throw (text := "way or year is out of range") ((if_pos (fun q => by first | exact absurd q.1 (by assumption) | exact q.1 (by assumption) | exact absurd q.2.1 (by assumption) | exact q.2.1 (by assumption) | exact absurd q.2.2.1 (by assumption) | exact q.2.2.1 (by assumption) | exact absurd q.2.2.2 (by assumption) | exact q.2.2.2 (by assumption))).trans (rfl)) kt_77 (by decide +kernel) rfl (by decide) (Nat.le_of_ble_eq_true rfl) (by decide) (by decide) dX7_copy_41 dX7_copy_44 dX7_copy_45 dX7_copy_47 dX7_copy_50
