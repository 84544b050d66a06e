/-! the class: loops (printed by wip/whole/gen_e.py) -/
set_option maxRecDepth 100000 in
set_option maxHeartbeats 4000000 in
theorem lp_X7_gather {E : Nat × (Nat → Int32)} {g : zLw} {μ : zMu} {c r : Nat} (hc : c < 12) (hr : r ≤ 60) {rf rt : Nat → Nat} : ∀ (n : Nat) (m : Nat) (ν : zMu), r - m = n → m ≤ r → ν = zit (cgat rf rt c) 0 m (μ) → zft ν r rf rt → zV false E kX7_gather 116 (.inl none, zm (zit (cgat rf rt c) 0 r μ) g) 9 [.ref (1), .ref (33 + 7 * c), .int (nI r), .int (nI m), .null, .null, .null, .null] [] (zm ν g) 0 0 := by
  intro n
  induction n using Nat.strongRecOn with
  | ind n ih =>
    intro m ν hm hle hs hft
    refine z_iload_n rfl rfl dX7_gather_9 ?_
    refine z_iload_n rfl rfl dX7_gather_10 ?_
    refine z_icmp_ge 167 (by decide) dX7_gather_11 (z_br (zcn (n := r) (by omega) (m) (by omega)).2.2 (fun h1 => ?_)) (z_brn (zcn (n := r) (by omega) (m) (by omega)).2.2 (fun h2 => ?_))
    · have hmL : m = r := by omega
      have hz : zit (cgat rf rt c) 0 r (μ) = ν := by rw [hs, hmL]
      exact z_vret (by rw [hz]) rfl (by decide) (by decide) dX7_gather_167
    · have hfm := (hft m (by omega)).2.2.1
      have htm := (hft m (by omega)).2.2.2
      refine z_aload_n rfl rfl dX7_gather_14 ?_
      refine m_getR (10) kf_X7_26 (zl_a rfl rfl) rfl rfl (by decide) dX7_gather_15 ?_
      refine m_getR (11) kf_X7_125 (zl_a rfl rfl) rfl rfl (by decide) dX7_gather_18 ?_
      refine z_iload_n rfl rfl dX7_gather_21 ?_
      refine m_iald (m) (zl_a rfl rfl) rfl (by omega) (by decide) dX7_gather_22 ?_
      refine m_eqv (w := nI (rf m)) ((hft m (by omega)).1) ?_
      refine z_istore (by decide) rfl dX7_gather_23 ?_
      refine z_aload_n rfl rfl dX7_gather_25 ?_
      refine m_getR (10) kf_X7_26 (zl_a rfl rfl) rfl rfl (by decide) dX7_gather_26 ?_
      refine m_getR (12) kf_X7_128 (zl_a rfl rfl) rfl rfl (by decide) dX7_gather_29 ?_
      refine z_iload_n rfl rfl dX7_gather_32 ?_
      refine m_iald (m) (zl_a rfl rfl) rfl (by omega) (by decide) dX7_gather_33 ?_
      refine m_eqv (w := nI (rt m)) ((hft m (by omega)).2.1) ?_
      refine z_istore (by decide) rfl dX7_gather_34 ?_
      refine z_aload_n rfl rfl dX7_gather_36 ?_
      refine z_iload rfl dX7_gather_37 ?_
      refine z_callV (as := [.int (nI (rf m))]) (ct_X0_knows (c := c) (p := rf m) (by omega) (by omega)) ko_X0_knows kl_X7_179 rfl (zc0 (by omega)) rfl rfl ⟨by decide, by decide, by decide, by decide⟩ (Nat.le_of_ble_eq_true rfl) rfl dX7_gather_39 ?_
      refine z_istore (by decide) rfl dX7_gather_42 ?_
      refine z_aload_n rfl rfl dX7_gather_44 ?_
      refine z_iload rfl dX7_gather_45 ?_
      refine z_callV (as := [.int (nI (rt m))]) (ct_X0_knows (c := c) (p := rt m) (by omega) (by omega)) ko_X0_knows kl_X7_179 rfl (zc0 (by omega)) rfl rfl ⟨by decide, by decide, by decide, by decide⟩ (Nat.le_of_ble_eq_true rfl) rfl dX7_gather_47 ?_
      refine z_istore (by decide) rfl dX7_gather_50 ?_
      refine z_iload rfl dX7_gather_52 ?_
      refine z_if_eq 108 (by decide) dX7_gather_54 (z_br zb_0 (fun h3 => ?_)) (z_br zb_n (fun h4 => ?_))
      · refine z_iload rfl dX7_gather_108 ?_
        refine z_if_eq 161 (by decide) dX7_gather_110 (z_br zb_0 (fun h5 => ?_)) (z_br zb_n (fun h6 => ?_))
        · refine z_iinc (nI (m + 1)) rfl (zinc _) (by decide) rfl dX7_gather_161 ?_
          refine z_goto 9 (by decide) dX7_gather_164 ?_
          refine z_fgt [.ref (1), .ref (33 + 7 * c), .int (nI r), .int (nI (m + 1)), .null, .null, .null, .null] ⟨Or.inl rfl, ⟨Or.inl rfl, ⟨Or.inl rfl, ⟨Or.inl rfl, ⟨Or.inr rfl, ⟨Or.inr rfl, ⟨Or.inr rfl, ⟨Or.inr rfl, trivial⟩⟩⟩⟩⟩⟩⟩⟩ ?_
          exact ih (r - (m + 1)) (by omega) (m + 1) (ν) rfl (by omega) (zst0 hs (by rw [cgat, if_neg (fun q => h3 q.1), if_neg (fun q => h5 q.1)])) hft
        · refine z_iload rfl dX7_gather_113 ?_
          refine z_if_ne 161 (by decide) dX7_gather_115 (z_br zb_n (fun h7 => ?_)) (z_br zb_0 (fun h8 => ?_))
          · exact absurd h7 h3
          · refine z_aload_n rfl rfl dX7_gather_118 ?_
            refine m_getR (15) kf_X7_33 (zl_a rfl rfl) rfl rfl (by decide) dX7_gather_119 ?_
            refine z_iload rfl dX7_gather_122 ?_
            refine z_aload_n rfl rfl dX7_gather_124 ?_
            refine m_getR (34 + 7 * c) kf_X7_182 (zc0 (by omega)) rfl (zl_rc (by omega)).1 (by omega) dX7_gather_125 ?_
            refine z_iload rfl dX7_gather_128 ?_
            refine m_iald (rt m) (zc1 (by omega)) rfl (by omega) (by decide) dX7_gather_130 ?_
            refine z_aload_n rfl rfl dX7_gather_131 ?_
            refine m_getR (10) kf_X7_26 (zl_a rfl rfl) rfl rfl (by decide) dX7_gather_132 ?_
            refine m_getR (13) kf_X7_131 (zl_a rfl rfl) rfl rfl (by decide) dX7_gather_135 ?_
            refine z_iload_n rfl rfl dX7_gather_138 ?_
            refine m_iald (m) (zl_a rfl rfl) rfl (by omega) (by decide) dX7_gather_139 ?_
            refine z_isub dX7_gather_140 ?_
            refine z_aload_n rfl rfl dX7_gather_141 ?_
            refine m_getR (35 + 7 * c) kf_X7_187 (zc0 (by omega)) rfl (zl_rc (by omega)).2.1 (by omega) dX7_gather_142 ?_
            refine z_iload rfl dX7_gather_145 ?_
            refine m_iald (rt m) (zc2 (by omega)) rfl (by omega) (by decide) dX7_gather_147 ?_
            refine z_aload_n rfl rfl dX7_gather_148 ?_
            refine m_getR (10) kf_X7_26 (zl_a rfl rfl) rfl rfl (by decide) dX7_gather_149 ?_
            refine m_getR (14) kf_X7_132 (zl_a rfl rfl) rfl rfl (by decide) dX7_gather_152 ?_
            refine z_iload_n rfl rfl dX7_gather_155 ?_
            refine m_iald (m) (zl_a rfl rfl) rfl (by omega) (by decide) dX7_gather_156 ?_
            refine z_isub dX7_gather_157 ?_
            refine z_callV (as := [.int (nI (rf m)), .int ((ν (34 + 7 * c) (rt m)) - (ν (13) (m))), .int ((ν (35 + 7 * c) (rt m)) - (ν (14) (m)))]) (ct_X6_give (p := rf m) (by omega) ((ν (34 + 7 * c) (rt m)) - (ν (13) (m))) ((ν (35 + 7 * c) (rt m)) - (ν (14) (m)))) ko_X6_give kl_X7_321 rfl (zl_a rfl rfl) rfl rfl ⟨by decide, by decide, by decide, by decide⟩ (Nat.le_of_ble_eq_true rfl) rfl dX7_gather_158 ?_
            refine z_iinc (nI (m + 1)) rfl (zinc _) (by decide) rfl dX7_gather_161 ?_
            refine z_goto 9 (by decide) dX7_gather_164 ?_
            refine z_fgt [.ref (1), .ref (33 + 7 * c), .int (nI r), .int (nI (m + 1)), .null, .null, .null, .null] ⟨Or.inl rfl, ⟨Or.inl rfl, ⟨Or.inl rfl, ⟨Or.inl rfl, ⟨Or.inr rfl, ⟨Or.inr rfl, ⟨Or.inr rfl, ⟨Or.inr rfl, trivial⟩⟩⟩⟩⟩⟩⟩⟩ ?_
            exact ih (r - (m + 1)) (by omega) (m + 1) (zgive ν (rf m) ((ν (34 + 7 * c) (rt m)) - (ν (13) (m))) ((ν (35 + 7 * c) (rt m)) - (ν (14) (m)))) rfl (by omega) (zst0 hs (by rw [cgat, if_neg (fun q => h8 q.1), if_pos ⟨h6, h8⟩])) (zft_k hft (zgive_o (by decide)) (zgive_o (by decide)))
      · refine z_iload rfl dX7_gather_57 ?_
        refine z_if_ne 108 (by decide) dX7_gather_59 (z_br zb_n (fun h9 => ?_)) (z_br zb_0 (fun h10 => ?_))
        · refine z_iload rfl dX7_gather_108 ?_
          refine z_if_eq 161 (by decide) dX7_gather_110 (z_br zb_0 (fun h11 => ?_)) (z_br zb_n (fun h12 => ?_))
          · exact absurd h9 h11
          · refine z_iload rfl dX7_gather_113 ?_
            refine z_if_ne 161 (by decide) dX7_gather_115 (z_br zb_n (fun h13 => ?_)) (z_br zb_0 (fun h14 => ?_))
            · refine z_iinc (nI (m + 1)) rfl (zinc _) (by decide) rfl dX7_gather_161 ?_
              refine z_goto 9 (by decide) dX7_gather_164 ?_
              refine z_fgt [.ref (1), .ref (33 + 7 * c), .int (nI r), .int (nI (m + 1)), .null, .null, .null, .null] ⟨Or.inl rfl, ⟨Or.inl rfl, ⟨Or.inl rfl, ⟨Or.inl rfl, ⟨Or.inr rfl, ⟨Or.inr rfl, ⟨Or.inr rfl, ⟨Or.inr rfl, trivial⟩⟩⟩⟩⟩⟩⟩⟩ ?_
              exact ih (r - (m + 1)) (by omega) (m + 1) (ν) rfl (by omega) (zst0 hs (by rw [cgat, if_neg (fun q => q.2 h12), if_neg (fun q => q.2 h13)])) hft
            · exact absurd h4 h14
        · refine z_aload_n rfl rfl dX7_gather_62 ?_
          refine m_getR (15) kf_X7_33 (zl_a rfl rfl) rfl rfl (by decide) dX7_gather_63 ?_
          refine z_iload rfl dX7_gather_66 ?_
          refine z_aload_n rfl rfl dX7_gather_68 ?_
          refine m_getR (34 + 7 * c) kf_X7_182 (zc0 (by omega)) rfl (zl_rc (by omega)).1 (by omega) dX7_gather_69 ?_
          refine z_iload rfl dX7_gather_72 ?_
          refine m_iald (rf m) (zc1 (by omega)) rfl (by omega) (by decide) dX7_gather_74 ?_
          refine z_aload_n rfl rfl dX7_gather_75 ?_
          refine m_getR (10) kf_X7_26 (zl_a rfl rfl) rfl rfl (by decide) dX7_gather_76 ?_
          refine m_getR (13) kf_X7_131 (zl_a rfl rfl) rfl rfl (by decide) dX7_gather_79 ?_
          refine z_iload_n rfl rfl dX7_gather_82 ?_
          refine m_iald (m) (zl_a rfl rfl) rfl (by omega) (by decide) dX7_gather_83 ?_
          refine z_iadd dX7_gather_84 ?_
          refine z_aload_n rfl rfl dX7_gather_85 ?_
          refine m_getR (35 + 7 * c) kf_X7_187 (zc0 (by omega)) rfl (zl_rc (by omega)).2.1 (by omega) dX7_gather_86 ?_
          refine z_iload rfl dX7_gather_89 ?_
          refine m_iald (rf m) (zc2 (by omega)) rfl (by omega) (by decide) dX7_gather_91 ?_
          refine z_aload_n rfl rfl dX7_gather_92 ?_
          refine m_getR (10) kf_X7_26 (zl_a rfl rfl) rfl rfl (by decide) dX7_gather_93 ?_
          refine m_getR (14) kf_X7_132 (zl_a rfl rfl) rfl rfl (by decide) dX7_gather_96 ?_
          refine z_iload_n rfl rfl dX7_gather_99 ?_
          refine m_iald (m) (zl_a rfl rfl) rfl (by omega) (by decide) dX7_gather_100 ?_
          refine z_iadd dX7_gather_101 ?_
          refine z_callV (as := [.int (nI (rt m)), .int ((ν (34 + 7 * c) (rf m)) + (ν (13) (m))), .int ((ν (35 + 7 * c) (rf m)) + (ν (14) (m)))]) (ct_X6_give (p := rt m) (by omega) ((ν (34 + 7 * c) (rf m)) + (ν (13) (m))) ((ν (35 + 7 * c) (rf m)) + (ν (14) (m)))) ko_X6_give kl_X7_321 rfl (zl_a rfl rfl) rfl rfl ⟨by decide, by decide, by decide, by decide⟩ (Nat.le_of_ble_eq_true rfl) rfl dX7_gather_102 ?_
          refine z_goto 161 (by decide) dX7_gather_105 ?_
          refine z_iinc (nI (m + 1)) rfl (zinc _) (by decide) rfl dX7_gather_161 ?_
          refine z_goto 9 (by decide) dX7_gather_164 ?_
          refine z_fgt [.ref (1), .ref (33 + 7 * c), .int (nI r), .int (nI (m + 1)), .null, .null, .null, .null] ⟨Or.inl rfl, ⟨Or.inl rfl, ⟨Or.inl rfl, ⟨Or.inl rfl, ⟨Or.inr rfl, ⟨Or.inr rfl, ⟨Or.inr rfl, ⟨Or.inr rfl, trivial⟩⟩⟩⟩⟩⟩⟩⟩ ?_
          exact ih (r - (m + 1)) (by omega) (m + 1) (zgive ν (rt m) ((ν (34 + 7 * c) (rf m)) + (ν (13) (m))) ((ν (35 + 7 * c) (rf m)) + (ν (14) (m)))) rfl (by omega) (zst0 hs (by rw [cgat, if_pos ⟨h4, h10⟩])) (zft_k hft (zgive_o (by decide)) (zgive_o (by decide)))
set_option maxRecDepth 100000 in
set_option maxHeartbeats 4000000 in
theorem ct_X7_gather {E : Nat × (Nat → Int32)} {μ : Nat → Nat → Int32} {g : zLw} {c r : Nat} (hc : c < 12) (hr : r ≤ 60) {rf rt : Nat → Nat} (hft : zft μ r rf rt) : zCt E kX7_gather [.ref (1), .ref (33 + 7 * c), .int (nI r)] (zm μ g) (.inl none, zm (cgather rf rt c r μ) g) := by
  refine zCt_of ko_X7_gather (Nat.le_of_ble_eq_true rfl) (zas_r (zas_r (zas_i zas_0))) ⟨Nat.le_refl _, fun h => absurd h (Nat.lt_irrefl _)⟩ (Nat.le_of_ble_eq_true rfl) ?_
  show zV false E kX7_gather 116 _ 0 [.ref (1), .ref (33 + 7 * c), .int (nI r), .null, .null, .null, .null, .null] [] (zm μ g) 0 0
  refine z_aload_n rfl rfl dX7_gather_0 ?_
  refine m_getR (15) kf_X7_33 (zl_a rfl rfl) rfl rfl (by decide) dX7_gather_1 ?_
  refine z_callV (as := []) ct_X6_begin ko_X6_begin kl_X7_318 rfl (zl_a rfl rfl) rfl rfl ⟨by decide, by decide, by decide, by decide⟩ (Nat.le_of_ble_eq_true rfl) rfl dX7_gather_4 ?_
  refine z_iconst (nI 0) (by decide) dX7_gather_7 ?_
  refine z_istore_n rfl (by decide) rfl dX7_gather_8 ?_
  exact lp_X7_gather hc hr _ 0 _ rfl (Nat.zero_le _) rfl (zft_k hft (zit_keep (cbeg_o (by decide)) μ 24) (zit_keep (cbeg_o (by decide)) μ 24))
set_option maxRecDepth 100000 in
set_option maxHeartbeats 4000000 in
theorem lp_X7_layOut {E : Nat × (Nat → Int32)} {g : zLw} {μ : zMu} {c r : Nat} (hc : c < 12) (hr : r ≤ 60) {rf rt : Nat → Nat} : ∀ (n : Nat) (m : Nat) (y : Int32) (ν : zMu), 24 - m = n → m ≤ 24 → (y, ν) = zit (clay rf rt c r) 0 m (nI 1, μ) → zft ν r rf rt → zV false E kX7_layOut 116 (.inl none, zm (zit (clay rf rt c r) 0 24 (nI 1, μ)).2 g) 5 [.ref (1), .ref (33 + 7 * c), .int (nI r), .int (y), .int (nI m)] [] (zm ν g) 0 0 := by
  intro n
  induction n using Nat.strongRecOn with
  | ind n ih =>
    intro m y ν hm hle hs hft
    refine z_iload rfl dX7_layOut_5 ?_
    refine z_bipush (nI 24) (by decide) dX7_layOut_7 ?_
    refine z_icmp_ge 37 (by decide) dX7_layOut_9 (z_br (zcn (n := 24) (by omega) (m) (by omega)).2.2 (fun h1 => ?_)) (z_brn (zcn (n := 24) (by omega) (m) (by omega)).2.2 (fun h2 => ?_))
    · have hmL : m = 24 := by omega
      have hz : zit (clay rf rt c r) 0 24 (nI 1, μ) = (y, ν) := by rw [hs, hmL]
      exact z_vret (by rw [hz]) rfl (by decide) (by decide) dX7_layOut_37
    · refine z_iload_n rfl rfl dX7_layOut_12 ?_
      refine z_if_eq 37 (by decide) dX7_layOut_13 (fun h3 => ?_) (fun h4 => ?_)
      · have hz : zit (clay rf rt c r) 0 24 (nI 1, μ) = (y, ν) := by
          have h9 := zit_stay hs (fun i => by rw [clay, if_pos h3]) (24 - m)
          rw [show m + (24 - m) = 24 by omega] at h9
          exact h9
        exact z_vret (by rw [hz]) rfl (by decide) (by decide) dX7_layOut_37
      · refine z_aload_n rfl rfl dX7_layOut_16 ?_
        refine z_aload_n rfl rfl dX7_layOut_17 ?_
        refine z_iload_n rfl rfl dX7_layOut_18 ?_
        refine z_callV (as := [.ref (33 + 7 * c), .int (nI r)]) (ct_X7_gather (c := c) (r := r) (by omega) (by omega) hft) ko_X7_gather kl_X7_311 rfl (zl_a rfl rfl) rfl rfl ⟨by decide, by decide, by decide, by decide⟩ (Nat.le_of_ble_eq_true rfl) rfl dX7_layOut_19 ?_
        refine z_aload_n rfl rfl dX7_layOut_22 ?_
        refine m_getR (15) kf_X7_33 (zl_a rfl rfl) rfl rfl (by decide) dX7_layOut_23 ?_
        refine z_aload_n rfl rfl dX7_layOut_26 ?_
        refine z_callV (as := [.ref (33 + 7 * c)]) (ct_X6_settle (c := c) (by omega)) ko_X6_settle kl_X7_314 rfl (zl_a rfl rfl) rfl rfl ⟨by decide, by decide, by decide, by decide⟩ (Nat.le_of_ble_eq_true rfl) rfl dX7_layOut_27 ?_
        refine z_istore_n rfl (by decide) rfl dX7_layOut_30 ?_
        refine z_iinc (nI (m + 1)) rfl (zinc _) (by decide) rfl dX7_layOut_31 ?_
        refine z_goto 5 (by decide) dX7_layOut_34 ?_
        exact ih (24 - (m + 1)) (by omega) (m + 1) ((zit (cset c) 0 24 (nI 0, cgather rf rt c r ν)).1) ((zit (cset c) 0 24 (nI 0, cgather rf rt c r ν)).2) rfl (by omega) (zst0 hs (by rw [clay, if_neg h4])) (zft_k hft (by show _ = ν 11; rw [cset_o (by omega)]; exact cgather_o (by decide) ν) (by show _ = ν 12; rw [cset_o (by omega)]; exact cgather_o (by decide) ν))
set_option maxRecDepth 100000 in
set_option maxHeartbeats 4000000 in
theorem ct_X7_layOut {E : Nat × (Nat → Int32)} {μ : Nat → Nat → Int32} {g : zLw} {c r : Nat} (hc : c < 12) (hr : r ≤ 60) {rf rt : Nat → Nat} (hft : zft μ r rf rt) : zCt E kX7_layOut [.ref (1), .ref (33 + 7 * c), .int (nI r)] (zm μ g) (.inl none, zm (zit (clay rf rt c r) 0 24 (nI 1, μ)).2 g) := by
  refine zCt_of ko_X7_layOut (Nat.le_of_ble_eq_true rfl) (zas_r (zas_r (zas_i zas_0))) ⟨Nat.le_refl _, fun h => absurd h (Nat.lt_irrefl _)⟩ (Nat.le_of_ble_eq_true rfl) ?_
  show zV false E kX7_layOut 116 _ 0 [.ref (1), .ref (33 + 7 * c), .int (nI r), .null, .null] [] (zm μ g) 0 0
  refine z_iconst (nI 1) (by decide) dX7_layOut_0 ?_
  refine z_istore_n rfl (by decide) rfl dX7_layOut_1 ?_
  refine z_iconst (nI 0) (by decide) dX7_layOut_2 ?_
  refine z_istore (by decide) rfl dX7_layOut_3 ?_
  exact lp_X7_layOut hc hr _ 0 _ _ rfl (Nat.zero_le _) rfl hft
set_option maxRecDepth 100000 in
set_option maxHeartbeats 4000000 in
theorem lpi_X7_leadsBack {E : Nat × (Nat → Int32)} {g : zLw} {μ : zMu} {nc : Nat} (hnc : μ 1 7 = nI nc) (hn12 : nc ≤ 12) {c d f t : Nat} (hf : f ≤ t) (ht : t < 24) {m : Nat} (hmt : m < t + 1 - f) : ∀ (n : Nat) (j : Nat) (lk : Int32), 12 - j = n → j ≤ 12 → (zld μ nc (f + m) (nI c) 12 (nI d) ↔ zld μ nc (f + m) (nI c) (12 - j) lk) → (¬ zld μ nc (f + m) (nI c) 12 (nI d) → zV false E kX7_leadsBack 116 ((.inl (some (.int (zB (zlb μ nc (nI c) d f (t + 1 - f))))), zm μ g)) 53 [.ref (1), .int (nI c), .int (nI d), .int (nI f), .int (nI t), .int (nI (f + m)), .null, .null] [] (zm μ g) 0 0) → zV false E kX7_leadsBack 116 (.inl (some (.int (zB (zlb μ nc (nI c) d f (t + 1 - f))))), zm μ g) 16 [.ref (1), .int (nI c), .int (nI d), .int (nI f), .int (nI t), .int (nI (f + m)), .int (lk), .int (nI j)] [] (zm μ g) 0 0 := by
  intro n
  induction n using Nat.strongRecOn with
  | ind n ih =>
    intro j lk hm hle hl kk
    refine z_iload rfl dX7_leadsBack_16 ?_
    refine z_bipush (nI 12) (by decide) dX7_leadsBack_18 ?_
    refine z_icmp_ge 53 (by decide) dX7_leadsBack_20 (z_br (zcn (n := 12) (by omega) (j) (by omega)).2.2 (fun h1 => ?_)) (z_brn (zcn (n := 12) (by omega) (j) (by omega)).2.2 (fun h2 => ?_))
    · refine z_fgt [.ref (1), .int (nI c), .int (nI d), .int (nI f), .int (nI t), .int (nI (f + m)), .null, .null] ⟨Or.inl rfl, ⟨Or.inl rfl, ⟨Or.inl rfl, ⟨Or.inl rfl, ⟨Or.inl rfl, ⟨Or.inl rfl, ⟨Or.inr rfl, ⟨Or.inr rfl, trivial⟩⟩⟩⟩⟩⟩⟩⟩ ?_
      exact kk (fun q => by have q2 := hl.mp q; rw [show 12 - j = 0 by omega] at q2; exact q2)
    · refine z_iload rfl dX7_leadsBack_23 ?_
      refine z_iconst (-1) (by decide) dX7_leadsBack_25 ?_
      refine z_icmp_eq 53 (by decide) dX7_leadsBack_26 (fun h3 => ?_) (fun h4 => ?_)
      · refine z_fgt [.ref (1), .int (nI c), .int (nI d), .int (nI f), .int (nI t), .int (nI (f + m)), .null, .null] ⟨Or.inl rfl, ⟨Or.inl rfl, ⟨Or.inl rfl, ⟨Or.inl rfl, ⟨Or.inl rfl, ⟨Or.inl rfl, ⟨Or.inr rfl, ⟨Or.inr rfl, trivial⟩⟩⟩⟩⟩⟩⟩⟩ ?_
        exact kk (fun q => by have q2 := hl.mp q; rw [h3] at q2; exact zld_z q2)
      · refine z_aload_n rfl rfl dX7_leadsBack_29 ?_
        refine z_iload rfl dX7_leadsBack_30 ?_
        refine z_iload rfl dX7_leadsBack_32 ?_
        refine z_callV (as := [.int (lk), .int (nI (f + m))]) (ct_X7_sourceOf hnc hn12 (p := f + m) (by omega) (lk)) ko_X7_sourceOf kl_X7_256 rfl (zl_a rfl rfl) rfl rfl ⟨by decide, by decide, by decide, by decide⟩ (Nat.le_of_ble_eq_true rfl) rfl dX7_leadsBack_34 ?_
        refine z_istore (by decide) rfl dX7_leadsBack_37 ?_
        refine z_iload rfl dX7_leadsBack_39 ?_
        refine z_iload_n rfl rfl dX7_leadsBack_41 ?_
        refine z_icmp_ne 47 (by decide) dX7_leadsBack_42 (fun h5 => ?_) (fun h6 => ?_)
        · refine z_iinc (nI (j + 1)) rfl (zinc _) (by decide) rfl dX7_leadsBack_47 ?_
          refine z_goto 16 (by decide) dX7_leadsBack_50 ?_
          exact ih (12 - (j + 1)) (by omega) (j + 1) _ rfl (by omega) (hl.trans (by rw [show 12 - j = 11 - j + 1 by omega, show 12 - (j + 1) = 11 - j by omega]; exact ⟨fun q => q.2.resolve_left h5, fun q => ⟨h4, Or.inr q⟩⟩)) kk
        · refine z_iconst (nI 1) (by decide) dX7_leadsBack_45 ?_
          exact z_iret (zleafBT ⟨m, hmt, hl.mpr (by rw [show 12 - j = 11 - j + 1 by omega]; exact ⟨h4, Or.inl h6⟩)⟩) rfl rfl (by decide) (by decide) dX7_leadsBack_46
set_option maxRecDepth 100000 in
set_option maxHeartbeats 4000000 in
theorem lpo_X7_leadsBack {E : Nat × (Nat → Int32)} {g : zLw} {μ : zMu} {nc : Nat} (hnc : μ 1 7 = nI nc) (hn12 : nc ≤ 12) {c d f t : Nat} (hf : f ≤ t) (ht : t < 24) : ∀ (n : Nat) (m : Nat), t + 1 - f - m = n → m ≤ t + 1 - f → (∀ i, i < m → ¬ zld μ nc (f + i) (nI c) 12 (nI d)) → zV false E kX7_leadsBack 116 (.inl (some (.int (zB (zlb μ nc (nI c) d f (t + 1 - f))))), zm μ g) 3 [.ref (1), .int (nI c), .int (nI d), .int (nI f), .int (nI t), .int (nI (f + m)), .null, .null] [] (zm μ g) 0 0 := by
  intro n
  induction n using Nat.strongRecOn with
  | ind n ih =>
    intro m hm hle hs
    refine z_iload rfl dX7_leadsBack_3 ?_
    refine z_iload rfl dX7_leadsBack_5 ?_
    refine z_icmp_gt 59 (by decide) dX7_leadsBack_7 (z_br (zcn (n := t) (by omega) (f + m) (by omega)).2.1 (fun h1 => ?_)) (z_brn (zcn (n := t) (by omega) (f + m) (by omega)).2.1 (fun h2 => ?_))
    · refine z_iconst (nI 0) (by decide) dX7_leadsBack_59 ?_
      exact z_iret (zleafBF (fun q => by obtain ⟨i, hi, hq⟩ := q; exact hs i (by omega) hq)) rfl rfl (by decide) (by decide) dX7_leadsBack_60
    · refine z_iload_n rfl rfl dX7_leadsBack_10 ?_
      refine z_istore (by decide) rfl dX7_leadsBack_11 ?_
      refine z_iconst (nI 0) (by decide) dX7_leadsBack_13 ?_
      refine z_istore (by decide) rfl dX7_leadsBack_14 ?_
      refine lpi_X7_leadsBack hnc hn12 hf ht (m := m) (by omega) _ 0 (nI d) rfl (Nat.zero_le _) Iff.rfl (fun hno => ?_)
      refine z_iinc (nI (f + m + 1)) rfl (zinc _) (by decide) rfl dX7_leadsBack_53 ?_
      refine z_goto 3 (by decide) dX7_leadsBack_56 ?_
      exact ih (t + 1 - f - (m + 1)) (by omega) (m + 1) rfl (by omega) (fun i hi => by
        rcases Nat.lt_succ_iff_lt_or_eq.mp hi with q | q
        · exact hs i q
        · subst q; exact hno)
set_option maxRecDepth 100000 in
set_option maxHeartbeats 4000000 in
theorem ct_X7_leadsBack {E : Nat × (Nat → Int32)} {μ : Nat → Nat → Int32} {g : zLw} {nc : Nat} (hnc : μ 1 7 = nI nc) (hn12 : nc ≤ 12) {c d f t : Nat} (hf : f ≤ t) (ht : t < 24) : zCt E kX7_leadsBack [.ref (1), .int (nI c), .int (nI d), .int (nI f), .int (nI t)] (zm μ g) (.inl (some (.int (zB (zlb μ nc (nI c) d f (t + 1 - f))))), zm μ g) := by
  refine zCt_of ko_X7_leadsBack (Nat.le_of_ble_eq_true rfl) (zas_r (zas_i (zas_i (zas_i (zas_i zas_0))))) ⟨Nat.le_refl _, fun h => absurd h (Nat.lt_irrefl _)⟩ (Nat.le_of_ble_eq_true rfl) ?_
  show zV false E kX7_leadsBack 116 _ 0 [.ref (1), .int (nI c), .int (nI d), .int (nI f), .int (nI t), .null, .null, .null] [] (zm μ g) 0 0
  refine z_iload_n rfl rfl dX7_leadsBack_0 ?_
  refine z_istore (by decide) rfl dX7_leadsBack_1 ?_
  exact lpo_X7_leadsBack hnc hn12 hf ht _ 0 rfl (Nat.zero_le _) (fun i hi => absurd hi (Nat.not_lt_zero i))
