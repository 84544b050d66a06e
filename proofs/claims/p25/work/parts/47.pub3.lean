/-! the class: public methods (printed by wip/whole/gen_f3.py) -/
set_option maxRecDepth 100000 in
set_option maxHeartbeats 4000000 in
theorem ct_X7_island {E : Nat × (Nat → Int32)} {μ : Nat → Nat → Int32} {g : zLw} {nc : Nat} (hnc : μ 1 7 = nI nc) (hn12 : nc ≤ 12) {ni : Nat} (hni : μ 21 3 = nI ni) (hi20 : ni ≤ 20) {c : Nat} (hc : c < nc) {x y : Int32} : zCt E kX7_island [.ref (1), .int (nI c), .int (x), .int (y)] (zm μ g) (if ¬ (zin x (nI 999) ∧ zin y (nI 999)) then (.inr xA, zm μ g) else if ¬ ni < 20 then (.inr xS, zm μ g) else (.inl (some (.int (nI ni))), zm (zu (zu (zu (zu (zu μ 22 ni x) 23 ni y) 24 ni (nI c)) 21 3 (nI (ni + 1))) (39 + 7 * c) ni (nI 1)) g) : zO) := by
  refine zCt_of ko_X7_island (Nat.le_of_ble_eq_true rfl) (zas_r (zas_i (zas_i (zas_i zas_0)))) (zMM (zifn rfl (zifn rfl rfl))) (Nat.le_of_ble_eq_true rfl) ?_
  show zV false E kX7_island 116 _ 0 [.ref (1), .int (nI c), .int (x), .int (y), .null, .null] [] (zm μ g) 0 0
  refine z_aload_n rfl rfl dX7_island_0 ?_
  refine z_iload_n rfl rfl dX7_island_1 ?_
  refine z_callV (as := [.int (nI c)]) (ct_X7_chartOf hnc hn12 (c := c) (by omega)) ko_X7_chartOf kl_X7_169 rfl (zl_a rfl rfl) rfl rfl ⟨by decide, by decide, by decide, by decide⟩ (Nat.le_of_ble_eq_true rfl) rfl dX7_island_2 ?_
  refine z_astore (by decide) rfl dX7_island_5 ?_
  refine z_iload_n rfl rfl dX7_island_7 ?_
  refine z_sipush (nI 999) (by decide) dX7_island_8 ?_
  refine z_callS (as := [.int (x), .int (nI 999)]) (ct_X7_isWithin (x) (nI 999)) ko_X7_isWithin kl_X7_66 rfl rfl ⟨by decide, by decide, by decide, by decide⟩ (Nat.le_of_ble_eq_true rfl) rfl dX7_island_11 ?_
  refine z_if_eq 27 (by decide) dX7_island_14 (z_br zb_0 (fun h1 => ?_)) (z_br zb_n (fun h2 => ?_))
  · exact z_throw (text := "x or y is out of range") ((if_pos (fun q => by first | exact absurd q.1 (by assumption) | exact q.1 (by assumption) | exact absurd q.2 (by assumption) | exact q.2 (by assumption))).trans (rfl)) kt_77 (by decide +kernel) rfl (by decide) (Nat.le_of_ble_eq_true rfl) (by decide) (by decide) dX7_island_27 dX7_island_30 dX7_island_31 dX7_island_33 dX7_island_36
  · refine z_iload_n rfl rfl dX7_island_17 ?_
    refine z_sipush (nI 999) (by decide) dX7_island_18 ?_
    refine z_callS (as := [.int (y), .int (nI 999)]) (ct_X7_isWithin (y) (nI 999)) ko_X7_isWithin kl_X7_66 rfl rfl ⟨by decide, by decide, by decide, by decide⟩ (Nat.le_of_ble_eq_true rfl) rfl dX7_island_21 ?_
    refine z_if_ne 37 (by decide) dX7_island_24 (z_br zb_n (fun h3 => ?_)) (z_br zb_0 (fun h4 => ?_))
    · refine z_aload_n rfl rfl dX7_island_37 ?_
      refine m_getR (21) kf_X7_52 (zl_a rfl rfl) rfl rfl (by decide) dX7_island_38 ?_
      refine m_getI kf_X7_213 (zl_a rfl rfl) rfl dX7_island_41 ?_
      refine m_eqv (w := nI ni) (hni) ?_
      refine z_bipush (nI 20) (by decide) dX7_island_44 ?_
      refine z_icmp_lt 59 (by decide) dX7_island_46 (z_br (zcn (n := ni) (by omega) (20) (by omega)).2.1 (fun h5 => ?_)) (z_brn (zcn (n := ni) (by omega) (20) (by omega)).2.1 (fun h6 => ?_))
      · refine z_aload_n rfl rfl dX7_island_59 ?_
        refine m_getR (21) kf_X7_52 (zl_a rfl rfl) rfl rfl (by decide) dX7_island_60 ?_
        refine m_getI kf_X7_213 (zl_a rfl rfl) rfl dX7_island_63 ?_
        refine m_eqv (w := nI ni) (hni) ?_
        refine z_istore (by decide) rfl dX7_island_66 ?_
        refine z_aload_n rfl rfl dX7_island_68 ?_
        refine m_getR (21) kf_X7_52 (zl_a rfl rfl) rfl rfl (by decide) dX7_island_69 ?_
        refine m_getR (22) kf_X7_216 (zl_a rfl rfl) rfl rfl (by decide) dX7_island_72 ?_
        refine z_iload rfl dX7_island_75 ?_
        refine z_iload_n rfl rfl dX7_island_77 ?_
        refine m_iast (ni) (zl_a rfl rfl) rfl (by omega) (by decide) dX7_island_78 ?_
        refine z_aload_n rfl rfl dX7_island_79 ?_
        refine m_getR (21) kf_X7_52 (zl_a rfl rfl) rfl rfl (by decide) dX7_island_80 ?_
        refine m_getR (23) kf_X7_217 (zl_a rfl rfl) rfl rfl (by decide) dX7_island_83 ?_
        refine z_iload rfl dX7_island_86 ?_
        refine z_iload_n rfl rfl dX7_island_88 ?_
        refine m_iast (ni) (zl_a rfl rfl) rfl (by omega) (by decide) dX7_island_89 ?_
        refine z_aload_n rfl rfl dX7_island_90 ?_
        refine m_getR (21) kf_X7_52 (zl_a rfl rfl) rfl rfl (by decide) dX7_island_91 ?_
        refine m_getR (24) kf_X7_218 (zl_a rfl rfl) rfl rfl (by decide) dX7_island_94 ?_
        refine z_iload rfl dX7_island_97 ?_
        refine z_iload_n rfl rfl dX7_island_99 ?_
        refine m_iast (ni) (zl_a rfl rfl) rfl (by omega) (by decide) dX7_island_100 ?_
        refine z_aload_n rfl rfl dX7_island_101 ?_
        refine m_getR (21) kf_X7_52 (zl_a rfl rfl) rfl rfl (by decide) dX7_island_102 ?_
        refine z_iload rfl dX7_island_105 ?_
        refine z_iconst (nI 1) (by decide) dX7_island_107 ?_
        refine m_addN dX7_island_108 ?_
        refine m_putI kf_X7_213 (zl_a rfl rfl) rfl dX7_island_109 ?_
        refine z_aload rfl dX7_island_112 ?_
        refine m_getR (39 + 7 * c) kf_X7_221 (zc0 (by omega)) rfl (zl_rc (by omega)).2.2.2.2.2 (by omega) dX7_island_114 ?_
        refine z_iload rfl dX7_island_117 ?_
        refine z_iconst (nI 1) (by decide) dX7_island_119 ?_
        refine m_zast (ni) (zc6 (by omega)) rfl (by omega) (by decide) (by decide) dX7_island_120 ?_
        refine z_iload rfl dX7_island_121 ?_
        exact z_iret ((if_neg (fun q => q ⟨by assumption, by assumption⟩)).trans ((if_neg (by omega)).trans (rfl))) rfl (znarI _) (by decide) (by decide) dX7_island_123
      · exact z_throw (text := "there were all the islands") ((if_neg (fun q => q ⟨by assumption, by assumption⟩)).trans ((if_pos (by omega)).trans (rfl))) kt_87 (by decide +kernel) rfl (by decide) (Nat.le_of_ble_eq_true rfl) (by decide) (by decide) dX7_island_49 dX7_island_52 dX7_island_53 dX7_island_55 dX7_island_58
    · exact z_throw (text := "x or y is out of range") ((if_pos (fun q => by first | exact absurd q.1 (by assumption) | exact q.1 (by assumption) | exact absurd q.2 (by assumption) | exact q.2 (by assumption))).trans (rfl)) kt_77 (by decide +kernel) rfl (by decide) (Nat.le_of_ble_eq_true rfl) (by decide) (by decide) dX7_island_27 dX7_island_30 dX7_island_31 dX7_island_33 dX7_island_36
set_option maxRecDepth 100000 in
set_option maxHeartbeats 4000000 in
theorem ct_X7_exchange {E : Nat × (Nat → Int32)} {μ : Nat → Nat → Int32} {g : zLw} {nc : Nat} (hnc : μ 1 7 = nI nc) (hn12 : nc ≤ 12) {c : Nat} (hc : c < nc) {p q : Nat} (hp : p < 24) (hq : q < 24) : zCt E kX7_exchange [.ref (1), .int (nI c), .int (nI p), .int (nI q)] (zm μ g) (.inl none, zm (zu (zu μ (36 + 7 * c) p (μ (36 + 7 * c) q)) (36 + 7 * c) q (μ (36 + 7 * c) p)) g) := by
  refine zCt_of ko_X7_exchange (Nat.le_of_ble_eq_true rfl) (zas_r (zas_i (zas_i (zas_i zas_0)))) ⟨Nat.le_refl _, fun h => absurd h (Nat.lt_irrefl _)⟩ (Nat.le_of_ble_eq_true rfl) ?_
  show zV false E kX7_exchange 116 _ 0 [.ref (1), .int (nI c), .int (nI p), .int (nI q), .null, .null] [] (zm μ g) 0 0
  refine z_aload_n rfl rfl dX7_exchange_0 ?_
  refine z_iload_n rfl rfl dX7_exchange_1 ?_
  refine z_callV (as := [.int (nI c)]) (ct_X7_chartOf hnc hn12 (c := c) (by omega)) ko_X7_chartOf kl_X7_169 rfl (zl_a rfl rfl) rfl rfl ⟨by decide, by decide, by decide, by decide⟩ (Nat.le_of_ble_eq_true rfl) rfl dX7_exchange_2 ?_
  refine z_astore (by decide) rfl dX7_exchange_5 ?_
  refine z_iload_n rfl rfl dX7_exchange_7 ?_
  refine z_callS (as := [.int (nI p)]) (ct_X7_needPoint (j := p) (by omega)) ko_X7_needPoint kl_X7_62 rfl rfl ⟨by decide, by decide, by decide, by decide⟩ (Nat.le_of_ble_eq_true rfl) rfl dX7_exchange_8 ?_
  refine z_iload_n rfl rfl dX7_exchange_11 ?_
  refine z_callS (as := [.int (nI q)]) (ct_X7_needPoint (j := q) (by omega)) ko_X7_needPoint kl_X7_62 rfl rfl ⟨by decide, by decide, by decide, by decide⟩ (Nat.le_of_ble_eq_true rfl) rfl dX7_exchange_12 ?_
  refine z_aload rfl dX7_exchange_15 ?_
  refine m_getR (36 + 7 * c) kf_X7_143 (zc0 (by omega)) rfl (zl_rc (by omega)).2.2.1 (by omega) dX7_exchange_17 ?_
  refine z_iload_n rfl rfl dX7_exchange_20 ?_
  refine m_iald (p) (zc3 (by omega)) rfl (by omega) (by decide) dX7_exchange_21 ?_
  refine z_istore (by decide) rfl dX7_exchange_22 ?_
  refine z_aload rfl dX7_exchange_24 ?_
  refine m_getR (36 + 7 * c) kf_X7_143 (zc0 (by omega)) rfl (zl_rc (by omega)).2.2.1 (by omega) dX7_exchange_26 ?_
  refine z_iload_n rfl rfl dX7_exchange_29 ?_
  refine z_aload rfl dX7_exchange_30 ?_
  refine m_getR (36 + 7 * c) kf_X7_143 (zc0 (by omega)) rfl (zl_rc (by omega)).2.2.1 (by omega) dX7_exchange_32 ?_
  refine z_iload_n rfl rfl dX7_exchange_35 ?_
  refine m_iald (q) (zc3 (by omega)) rfl (by omega) (by decide) dX7_exchange_36 ?_
  refine m_iast (p) (zc3 (by omega)) rfl (by omega) (by decide) dX7_exchange_37 ?_
  refine z_aload rfl dX7_exchange_38 ?_
  refine m_getR (36 + 7 * c) kf_X7_143 (zc0 (by omega)) rfl (zl_rc (by omega)).2.2.1 (by omega) dX7_exchange_40 ?_
  refine z_iload_n rfl rfl dX7_exchange_43 ?_
  refine z_iload rfl dX7_exchange_44 ?_
  refine m_iast (q) (zc3 (by omega)) rfl (by omega) (by decide) dX7_exchange_46 ?_
  exact z_vret (rfl) rfl (by decide) (by decide) dX7_exchange_47
set_option maxRecDepth 100000 in
set_option maxHeartbeats 4000000 in
theorem ct_X7_shrink1 {E : Nat × (Nat → Int32)} {μ : Nat → Nat → Int32} {g : zLw} {nc : Nat} (hnc : μ 1 7 = nI nc) (hn12 : nc ≤ 12) {c : Nat} (hc : c < nc) {b : Nat} (hb : b < 3) {h : Int32} : zCt E kX7_shrink [.ref (1), .int (nI c), .int (nI b), .int (h), .int (nI 1)] (zm μ g) (if ¬ (¬ h < nI 50 ∧ h ≤ nI 200) then (.inr xA, zm μ g) else (.inl (some (.int (zu μ (38 + 7 * c) b h (38 + 7 * c) b))), zm (zu μ (38 + 7 * c) b h) g) : zO) := by
  refine zCt_of ko_X7_shrink (Nat.le_of_ble_eq_true rfl) (zas_r (zas_i (zas_i (zas_i (zas_i zas_0))))) (zMM (zifn rfl rfl)) (Nat.le_of_ble_eq_true rfl) ?_
  show zV false E kX7_shrink 116 _ 0 [.ref (1), .int (nI c), .int (nI b), .int (h), .int (nI 1), .null] [] (zm μ g) 0 0
  refine z_aload_n rfl rfl dX7_shrink_0 ?_
  refine z_iload_n rfl rfl dX7_shrink_1 ?_
  refine z_callV (as := [.int (nI c)]) (ct_X7_chartOf hnc hn12 (c := c) (by omega)) ko_X7_chartOf kl_X7_169 rfl (zl_a rfl rfl) rfl rfl ⟨by decide, by decide, by decide, by decide⟩ (Nat.le_of_ble_eq_true rfl) rfl dX7_shrink_2 ?_
  refine z_astore (by decide) rfl dX7_shrink_5 ?_
  refine z_iload_n rfl rfl dX7_shrink_7 ?_
  refine z_callS (as := [.int (nI b)]) (ct_X7_needBasin (j := b) (by omega)) ko_X7_needBasin kl_X7_225 rfl rfl ⟨by decide, by decide, by decide, by decide⟩ (Nat.le_of_ble_eq_true rfl) rfl dX7_shrink_8 ?_
  refine z_iload_n rfl rfl dX7_shrink_11 ?_
  refine z_bipush (nI 50) (by decide) dX7_shrink_12 ?_
  refine z_icmp_lt 24 (by decide) dX7_shrink_14 (fun h1 => ?_) (fun h2 => ?_)
  · exact z_throw (text := "hundredths is out of range") ((if_pos (fun q => by first | exact absurd q.1 (by assumption) | exact q.1 (by assumption) | exact absurd q.2 (by assumption) | exact q.2 (by assumption))).trans (rfl)) kt_77 (by decide +kernel) rfl (by decide) (Nat.le_of_ble_eq_true rfl) (by decide) (by decide) dX7_shrink_24 dX7_shrink_27 dX7_shrink_28 dX7_shrink_30 dX7_shrink_33
  · refine z_iload_n rfl rfl dX7_shrink_17 ?_
    refine z_sipush (nI 200) (by decide) dX7_shrink_18 ?_
    refine z_icmp_le 34 (by decide) dX7_shrink_21 (fun h3 => ?_) (fun h4 => ?_)
    · refine z_iload rfl dX7_shrink_34 ?_
      refine z_if_eq 50 (by decide) dX7_shrink_36 (fun h => absurd h (by decide)) (fun _ => ?_)
      refine z_aload rfl dX7_shrink_39 ?_
      refine m_getR (38 + 7 * c) kf_X7_144 (zc0 (by omega)) rfl (zl_rc (by omega)).2.2.2.2.1 (by omega) dX7_shrink_41 ?_
      refine z_iload_n rfl rfl dX7_shrink_44 ?_
      refine z_iload_n rfl rfl dX7_shrink_45 ?_
      refine m_iast (b) (zc5 (by omega)) rfl (by omega) (by decide) dX7_shrink_46 ?_
      refine z_goto 80 (by decide) dX7_shrink_47 ?_
      refine z_aload rfl dX7_shrink_80 ?_
      refine m_getR (38 + 7 * c) kf_X7_144 (zc0 (by omega)) rfl (zl_rc (by omega)).2.2.2.2.1 (by omega) dX7_shrink_82 ?_
      refine z_iload_n rfl rfl dX7_shrink_85 ?_
      refine m_iald (b) (zc5 (by omega)) rfl (by omega) (by decide) dX7_shrink_86 ?_
      exact z_iret ((if_neg (fun q => q ⟨by assumption, by assumption⟩)).trans (rfl)) rfl (znarI _) (by decide) (by decide) dX7_shrink_87
    · exact z_throw (text := "hundredths is out of range") ((if_pos (fun q => by first | exact absurd q.1 (by assumption) | exact q.1 (by assumption) | exact absurd q.2 (by assumption) | exact q.2 (by assumption))).trans (rfl)) kt_77 (by decide +kernel) rfl (by decide) (Nat.le_of_ble_eq_true rfl) (by decide) (by decide) dX7_shrink_24 dX7_shrink_27 dX7_shrink_28 dX7_shrink_30 dX7_shrink_33
set_option maxRecDepth 100000 in
set_option maxHeartbeats 4000000 in
theorem ct_X7_shrink0 {E : Nat × (Nat → Int32)} {μ : Nat → Nat → Int32} {g : zLw} {nc : Nat} (hnc : μ 1 7 = nI nc) (hn12 : nc ≤ 12) {c : Nat} (hc : c < nc) {b : Nat} (hb : b < 3) {h : Int32} : zCt E kX7_shrink [.ref (1), .int (nI c), .int (nI b), .int (h), .int (nI 0)] (zm μ g) (if ¬ (¬ h < nI 50 ∧ h ≤ nI 200) then (.inr xA, zm μ g) else if zB (∀ i, i < 8 → cshP μ c h (b * 8 + i)) = 0 then (.inr xS, zm μ g) else (.inl (some (.int ((zit (cshr c h) (b * 8) 8 μ) (38 + 7 * c) b))), zm (zit (cshr c h) (b * 8) 8 μ) g) : zO) := by
  refine zCt_of ko_X7_shrink (Nat.le_of_ble_eq_true rfl) (zas_r (zas_i (zas_i (zas_i (zas_i zas_0))))) (zMM (zifn rfl (zifn rfl rfl))) (Nat.le_of_ble_eq_true rfl) ?_
  show zV false E kX7_shrink 116 _ 0 [.ref (1), .int (nI c), .int (nI b), .int (h), .int (nI 0), .null] [] (zm μ g) 0 0
  refine z_aload_n rfl rfl dX7_shrink_0 ?_
  refine z_iload_n rfl rfl dX7_shrink_1 ?_
  refine z_callV (as := [.int (nI c)]) (ct_X7_chartOf hnc hn12 (c := c) (by omega)) ko_X7_chartOf kl_X7_169 rfl (zl_a rfl rfl) rfl rfl ⟨by decide, by decide, by decide, by decide⟩ (Nat.le_of_ble_eq_true rfl) rfl dX7_shrink_2 ?_
  refine z_astore (by decide) rfl dX7_shrink_5 ?_
  refine z_iload_n rfl rfl dX7_shrink_7 ?_
  refine z_callS (as := [.int (nI b)]) (ct_X7_needBasin (j := b) (by omega)) ko_X7_needBasin kl_X7_225 rfl rfl ⟨by decide, by decide, by decide, by decide⟩ (Nat.le_of_ble_eq_true rfl) rfl dX7_shrink_8 ?_
  refine z_iload_n rfl rfl dX7_shrink_11 ?_
  refine z_bipush (nI 50) (by decide) dX7_shrink_12 ?_
  refine z_icmp_lt 24 (by decide) dX7_shrink_14 (fun h1 => ?_) (fun h2 => ?_)
  · exact z_throw (text := "hundredths is out of range") ((if_pos (fun q => by first | exact absurd q.1 (by assumption) | exact q.1 (by assumption) | exact absurd q.2 (by assumption) | exact q.2 (by assumption))).trans (rfl)) kt_77 (by decide +kernel) rfl (by decide) (Nat.le_of_ble_eq_true rfl) (by decide) (by decide) dX7_shrink_24 dX7_shrink_27 dX7_shrink_28 dX7_shrink_30 dX7_shrink_33
  · refine z_iload_n rfl rfl dX7_shrink_17 ?_
    refine z_sipush (nI 200) (by decide) dX7_shrink_18 ?_
    refine z_icmp_le 34 (by decide) dX7_shrink_21 (fun h3 => ?_) (fun h4 => ?_)
    · refine z_iload rfl dX7_shrink_34 ?_
      refine z_if_eq 50 (by decide) dX7_shrink_36 (fun _ => ?_) (fun h => absurd h (by decide))
      refine z_aload rfl dX7_shrink_50 ?_
      refine z_iload_n rfl rfl dX7_shrink_52 ?_
      refine z_iload_n rfl rfl dX7_shrink_53 ?_
      refine z_callV (as := [.int (nI b), .int (h)]) (ct_X0_fitsShrunk (c := c) (b := b) (by omega) (by omega) (h := h)) ko_X0_fitsShrunk kl_X7_230 rfl (zc0 (by omega)) rfl rfl ⟨by decide, by decide, by decide, by decide⟩ (Nat.le_of_ble_eq_true rfl) rfl dX7_shrink_54 ?_
      refine z_if_eq 70 (by decide) dX7_shrink_57 (z_br zB_0 (fun h5 => ?_)) (z_br zB_n (fun h6 => ?_))
      · exact z_throw (text := "a place would be too far away") ((if_neg (fun q => q ⟨by assumption, by assumption⟩)).trans ((if_pos (zB_0.mpr (by assumption))).trans (rfl))) kt_87 (by decide +kernel) rfl (by decide) (Nat.le_of_ble_eq_true rfl) (by decide) (by decide) dX7_shrink_70 dX7_shrink_73 dX7_shrink_74 dX7_shrink_76 dX7_shrink_79
      · refine z_aload rfl dX7_shrink_60 ?_
        refine z_iload_n rfl rfl dX7_shrink_62 ?_
        refine z_iload_n rfl rfl dX7_shrink_63 ?_
        refine z_callV (as := [.int (nI b), .int (h)]) (ct_X0_shrinkPlaces (c := c) (b := b) (by omega) (by omega) (h := h)) ko_X0_shrinkPlaces kl_X7_233 rfl (zc0 (by omega)) rfl rfl ⟨by decide, by decide, by decide, by decide⟩ (Nat.le_of_ble_eq_true rfl) rfl dX7_shrink_64 ?_
        refine z_goto 80 (by decide) dX7_shrink_67 ?_
        refine z_aload rfl dX7_shrink_80 ?_
        refine m_getR (38 + 7 * c) kf_X7_144 (zc0 (by omega)) rfl (zl_rc (by omega)).2.2.2.2.1 (by omega) dX7_shrink_82 ?_
        refine z_iload_n rfl rfl dX7_shrink_85 ?_
        refine m_iald (b) (zc5 (by omega)) rfl (by omega) (by decide) dX7_shrink_86 ?_
        exact z_iret ((if_neg (fun q => q ⟨by assumption, by assumption⟩)).trans ((if_neg (zB_n.mpr (by assumption))).trans (rfl))) rfl (znarI _) (by decide) (by decide) dX7_shrink_87
    · exact z_throw (text := "hundredths is out of range") ((if_pos (fun q => by first | exact absurd q.1 (by assumption) | exact q.1 (by assumption) | exact absurd q.2 (by assumption) | exact q.2 (by assumption))).trans (rfl)) kt_77 (by decide +kernel) rfl (by decide) (Nat.le_of_ble_eq_true rfl) (by decide) (by decide) dX7_shrink_24 dX7_shrink_27 dX7_shrink_28 dX7_shrink_30 dX7_shrink_33
set_option maxRecDepth 100000 in
set_option maxHeartbeats 4000000 in
theorem lp_X7_lose {E : Nat × (Nat → Int32)} {g : zLw} {μ : zMu} {c f t : Nat} (hc : c < 12) (hf : f ≤ t) (ht : t < 24) {w : Int32} : ∀ (n : Nat) (m : Nat) (ν : zMu), (t + 1 - f) - m = n → m ≤ (t + 1 - f) → ν = zit (clo c) f m (μ) → zV false E kX7_lose 116 (.inl (some (.int w)), zm (zit (clo c) f (t + 1 - f) μ) g) 42 [.ref (1), .int (nI c), .int (nI f), .int (nI t), .ref (33 + 7 * c), .int (w), .int (nI (f + m))] [] (zm ν g) 3 18 := by
  intro n
  induction n using Nat.strongRecOn with
  | ind n ih =>
    intro m ν hm hle hs 
    refine z_iload rfl dX7_lose_42 ?_
    refine z_iload_n rfl rfl dX7_lose_44 ?_
    refine z_icmp_gt 61 (by decide) dX7_lose_45 (z_br (zcn (n := t) (by omega) (f + m) (by omega)).2.1 (fun h1 => ?_)) (z_brn (zcn (n := t) (by omega) (f + m) (by omega)).2.1 (fun h2 => ?_))
    · have hmL : m = (t + 1 - f) := by omega
      have hz : zit (clo c) f ((t + 1 - f)) (μ) = ν := by rw [hs, hmL]
      refine z_iload rfl dX7_lose_61 ?_
      exact z_iret (by rw [hz]) rfl (znarI _) (by decide) (by decide) dX7_lose_63
    · refine z_aload rfl dX7_lose_48 ?_
      refine z_iload rfl dX7_lose_50 ?_
      refine z_callV (as := [.int (nI (f + m))]) (ct_X0_forget (c := c) (p := f + m) (by omega) (by omega)) ko_X0_forget kl_X7_140 rfl (zc0 (by omega)) rfl rfl ⟨by decide, by decide, by decide, by decide⟩ (Nat.le_of_ble_eq_true rfl) rfl dX7_lose_52 ?_
      refine z_iinc (nI (f + m + 1)) rfl (zinc _) (by decide) rfl dX7_lose_55 ?_
      refine z_goto 42 (by decide) dX7_lose_58 ?_
      exact ih ((t + 1 - f) - (m + 1)) (by omega) (m + 1) (zput ν c (f + m) 100000 100000 (-1)) rfl (by omega) (zst hs (rfl))
set_option maxRecDepth 100000 in
set_option maxHeartbeats 4000000 in
theorem ct_X7_lose {E : Nat × (Nat → Int32)} {μ : Nat → Nat → Int32} {g : zLw} {nc : Nat} (hnc : μ 1 7 = nI nc) (hn12 : nc ≤ 12) {c : Nat} (hc : c < nc) {f t : Nat} (hf : f < 24) (ht : t < 24) : zCt E kX7_lose [.ref (1), .int (nI c), .int (nI f), .int (nI t)] (zm μ g) (if t < f then (.inr xA, zm μ g) else (.inl (some (.int (zit (ckn μ c) f (t + 1 - f) (nI 0)))), zm (zit (clo c) f (t + 1 - f) μ) g) : zO) := by
  refine zCt_of ko_X7_lose (Nat.le_of_ble_eq_true rfl) (zas_r (zas_i (zas_i (zas_i zas_0)))) (zMM (zifn rfl rfl)) (Nat.le_of_ble_eq_true rfl) ?_
  show zV false E kX7_lose 116 _ 0 [.ref (1), .int (nI c), .int (nI f), .int (nI t), .null, .null, .null] [] (zm μ g) 0 0
  refine z_aload_n rfl rfl dX7_lose_0 ?_
  refine z_iload_n rfl rfl dX7_lose_1 ?_
  refine z_callV (as := [.int (nI c)]) (ct_X7_chartOf hnc hn12 (c := c) (by omega)) ko_X7_chartOf kl_X7_169 rfl (zl_a rfl rfl) rfl rfl ⟨by decide, by decide, by decide, by decide⟩ (Nat.le_of_ble_eq_true rfl) rfl dX7_lose_2 ?_
  refine z_astore (by decide) rfl dX7_lose_5 ?_
  refine z_iload_n rfl rfl dX7_lose_7 ?_
  refine z_callS (as := [.int (nI f)]) (ct_X7_needPoint (j := f) (by omega)) ko_X7_needPoint kl_X7_62 rfl rfl ⟨by decide, by decide, by decide, by decide⟩ (Nat.le_of_ble_eq_true rfl) rfl dX7_lose_8 ?_
  refine z_iload_n rfl rfl dX7_lose_11 ?_
  refine z_callS (as := [.int (nI t)]) (ct_X7_needPoint (j := t) (by omega)) ko_X7_needPoint kl_X7_62 rfl rfl ⟨by decide, by decide, by decide, by decide⟩ (Nat.le_of_ble_eq_true rfl) rfl dX7_lose_12 ?_
  refine z_iload_n rfl rfl dX7_lose_15 ?_
  refine z_iload_n rfl rfl dX7_lose_16 ?_
  refine z_icmp_ge 30 (by decide) dX7_lose_17 (z_br (zcn (n := f) (by omega) (t) (by omega)).2.2 (fun h1 => ?_)) (z_brn (zcn (n := f) (by omega) (t) (by omega)).2.2 (fun h2 => ?_))
  · refine z_aload rfl dX7_lose_30 ?_
    refine z_iload_n rfl rfl dX7_lose_32 ?_
    refine z_iload_n rfl rfl dX7_lose_33 ?_
    refine z_callV (as := [.int (nI f), .int (nI t)]) (ct_X0_knownFrom (c := c) (f := f) (t := t) (by omega) (by omega) (by omega)) ko_X0_knownFrom kl_X7_207 rfl (zc0 (by omega)) rfl rfl ⟨by decide, by decide, by decide, by decide⟩ (Nat.le_of_ble_eq_true rfl) rfl dX7_lose_34 ?_
    refine z_istore (by decide) rfl dX7_lose_37 ?_
    refine z_iload_n rfl rfl dX7_lose_39 ?_
    refine z_istore (by decide) rfl dX7_lose_40 ?_
    refine z_oeq ((if_neg (by omega)).trans rfl) ?_
    exact lp_X7_lose (c := c) (f := f) (t := t) (by omega) (by omega) (by omega) _ 0 _ rfl (Nat.zero_le _) rfl
  · exact z_throw (text := "the stretch ends ahead of its start") ((if_pos (by omega)).trans (rfl)) kt_77 (by decide +kernel) rfl (by decide) (Nat.le_of_ble_eq_true rfl) (by decide) (by decide) dX7_lose_20 dX7_lose_23 dX7_lose_24 dX7_lose_26 dX7_lose_29
set_option maxRecDepth 100000 in
set_option maxHeartbeats 4000000 in
theorem ct_X7_paint {E : Nat × (Nat → Int32)} {μ : Nat → Nat → Int32} {g : zLw} {nc : Nat} (hnc : μ 1 7 = nI nc) (hn12 : nc ≤ 12) {ni : Nat} (hni : μ 21 3 = nI ni) (hi20 : ni ≤ 20) {c : Nat} (hc : c < nc) {i : Nat} (hi : i < ni) (hB : μ (39 + 7 * c) i = 0 ∨ μ (39 + 7 * c) i = 1) : zCt E kX7_paint [.ref (1), .int (nI c), .int (nI i)] (zm μ g) (.inl (some (.int (μ (39 + 7 * c) i))), zm (zu μ (39 + 7 * c) i (nI 0)) g) := by
  refine zCt_of ko_X7_paint (Nat.le_of_ble_eq_true rfl) (zas_r (zas_i (zas_i zas_0))) ⟨Nat.le_refl _, fun h => absurd h (Nat.lt_irrefl _)⟩ (Nat.le_of_ble_eq_true rfl) ?_
  show zV false E kX7_paint 116 _ 0 [.ref (1), .int (nI c), .int (nI i), .null, .null] [] (zm μ g) 0 0
  refine z_aload_n rfl rfl dX7_paint_0 ?_
  refine z_iload_n rfl rfl dX7_paint_1 ?_
  refine z_callV (as := [.int (nI c)]) (ct_X7_chartOf hnc hn12 (c := c) (by omega)) ko_X7_chartOf kl_X7_169 rfl (zl_a rfl rfl) rfl rfl ⟨by decide, by decide, by decide, by decide⟩ (Nat.le_of_ble_eq_true rfl) rfl dX7_paint_2 ?_
  refine z_astore_n rfl (by decide) rfl dX7_paint_5 ?_
  refine z_aload_n rfl rfl dX7_paint_6 ?_
  refine z_iload_n rfl rfl dX7_paint_7 ?_
  refine z_callV (as := [.int (nI i)]) (ct_X7_needIsland hni hi20 (j := i) (by omega)) ko_X7_needIsland kl_X7_239 rfl (zl_a rfl rfl) rfl rfl ⟨by decide, by decide, by decide, by decide⟩ (Nat.le_of_ble_eq_true rfl) rfl dX7_paint_8 ?_
  refine z_aload_n rfl rfl dX7_paint_11 ?_
  refine m_getR (39 + 7 * c) kf_X7_221 (zc0 (by omega)) rfl (zl_rc (by omega)).2.2.2.2.2 (by omega) dX7_paint_12 ?_
  refine z_iload_n rfl rfl dX7_paint_15 ?_
  refine m_zald (i) (zc6 (by omega)) rfl (by omega) (by decide) dX7_paint_16 ?_
  refine z_istore (by decide) rfl dX7_paint_17 ?_
  refine z_aload_n rfl rfl dX7_paint_19 ?_
  refine m_getR (39 + 7 * c) kf_X7_221 (zc0 (by omega)) rfl (zl_rc (by omega)).2.2.2.2.2 (by omega) dX7_paint_20 ?_
  refine z_iload_n rfl rfl dX7_paint_23 ?_
  refine z_iconst (nI 0) (by decide) dX7_paint_24 ?_
  refine m_zast (i) (zc6 (by omega)) rfl (by omega) (by decide) (by decide) dX7_paint_25 ?_
  refine z_iload rfl dX7_paint_26 ?_
  exact z_iret (rfl) rfl (zbn0 hB) (by decide) (by decide) dX7_paint_28
set_option maxRecDepth 100000 in
set_option maxHeartbeats 4000000 in
theorem ct_X7_told1 {E : Nat × (Nat → Int32)} {μ : Nat → Nat → Int32} {g : zLw} {nr : Nat} (hnr : μ 10 4 = nI nr) (hr60 : nr ≤ 60) {i : Nat} (hi : i < nr) : zCt E kX7_told [.ref (1), .int (nI i), .int (nI 1)] (zm μ g) (.inl (some (.int (μ 13 i))), zm (μ) g) := by
  refine zCt_of ko_X7_told (Nat.le_of_ble_eq_true rfl) (zas_r (zas_i (zas_i zas_0))) ⟨Nat.le_refl _, fun h => absurd h (Nat.lt_irrefl _)⟩ (Nat.le_of_ble_eq_true rfl) ?_
  show zV false E kX7_told 116 _ 0 [.ref (1), .int (nI i), .int (nI 1)] [] (zm μ g) 0 0
  refine z_iload_n rfl rfl dX7_told_0 ?_
  refine z_if_lt 15 (by decide) dX7_told_1 (fun h => absurd h (nI_pos (n := i) (by omega))) (fun _ => ?_)
  refine z_iload_n rfl rfl dX7_told_4 ?_
  refine z_aload_n rfl rfl dX7_told_5 ?_
  refine m_getR (10) kf_X7_26 (zl_a rfl rfl) rfl rfl (by decide) dX7_told_6 ?_
  refine m_getI kf_X7_84 (zl_a rfl rfl) rfl dX7_told_9 ?_
  refine m_eqv (w := nI nr) (hnr) ?_
  refine z_icmp_lt 25 (by decide) dX7_told_12 (z_br (zcn (n := i) (by omega) (nr) (by omega)).2.1 (fun h3 => ?_)) (z_brn (zcn (n := i) (by omega) (nr) (by omega)).2.1 (fun h4 => ?_))
  · refine z_iload_n rfl rfl dX7_told_25 ?_
    refine z_if_eq 41 (by decide) dX7_told_26 (fun h => absurd h (by decide)) (fun _ => ?_)
    refine z_aload_n rfl rfl dX7_told_29 ?_
    refine m_getR (10) kf_X7_26 (zl_a rfl rfl) rfl rfl (by decide) dX7_told_30 ?_
    refine m_getR (13) kf_X7_131 (zl_a rfl rfl) rfl rfl (by decide) dX7_told_33 ?_
    refine z_iload_n rfl rfl dX7_told_36 ?_
    refine m_iald (i) (zl_a rfl rfl) rfl (by omega) (by decide) dX7_told_37 ?_
    refine z_goto 50 (by decide) dX7_told_38 ?_
    exact z_iret (rfl) rfl (znarI _) (by decide) (by decide) dX7_told_50
  · omega
set_option maxRecDepth 100000 in
set_option maxHeartbeats 4000000 in
theorem ct_X7_told0 {E : Nat × (Nat → Int32)} {μ : Nat → Nat → Int32} {g : zLw} {nr : Nat} (hnr : μ 10 4 = nI nr) (hr60 : nr ≤ 60) {i : Nat} (hi : i < nr) : zCt E kX7_told [.ref (1), .int (nI i), .int (nI 0)] (zm μ g) (.inl (some (.int (μ 14 i))), zm (μ) g) := by
  refine zCt_of ko_X7_told (Nat.le_of_ble_eq_true rfl) (zas_r (zas_i (zas_i zas_0))) ⟨Nat.le_refl _, fun h => absurd h (Nat.lt_irrefl _)⟩ (Nat.le_of_ble_eq_true rfl) ?_
  show zV false E kX7_told 116 _ 0 [.ref (1), .int (nI i), .int (nI 0)] [] (zm μ g) 0 0
  refine z_iload_n rfl rfl dX7_told_0 ?_
  refine z_if_lt 15 (by decide) dX7_told_1 (fun h => absurd h (nI_pos (n := i) (by omega))) (fun _ => ?_)
  refine z_iload_n rfl rfl dX7_told_4 ?_
  refine z_aload_n rfl rfl dX7_told_5 ?_
  refine m_getR (10) kf_X7_26 (zl_a rfl rfl) rfl rfl (by decide) dX7_told_6 ?_
  refine m_getI kf_X7_84 (zl_a rfl rfl) rfl dX7_told_9 ?_
  refine m_eqv (w := nI nr) (hnr) ?_
  refine z_icmp_lt 25 (by decide) dX7_told_12 (z_br (zcn (n := i) (by omega) (nr) (by omega)).2.1 (fun h3 => ?_)) (z_brn (zcn (n := i) (by omega) (nr) (by omega)).2.1 (fun h4 => ?_))
  · refine z_iload_n rfl rfl dX7_told_25 ?_
    refine z_if_eq 41 (by decide) dX7_told_26 (fun _ => ?_) (fun h => absurd h (by decide))
    refine z_aload_n rfl rfl dX7_told_41 ?_
    refine m_getR (10) kf_X7_26 (zl_a rfl rfl) rfl rfl (by decide) dX7_told_42 ?_
    refine m_getR (14) kf_X7_132 (zl_a rfl rfl) rfl rfl (by decide) dX7_told_45 ?_
    refine z_iload_n rfl rfl dX7_told_48 ?_
    refine m_iald (i) (zl_a rfl rfl) rfl (by omega) (by decide) dX7_told_49 ?_
    exact z_iret (rfl) rfl (znarI _) (by decide) (by decide) dX7_told_50
  · omega
set_option maxRecDepth 100000 in
set_option maxHeartbeats 4000000 in
theorem ct_X7_at {E : Nat × (Nat → Int32)} {μ : Nat → Nat → Int32} {g : zLw} {nc : Nat} (hnc : μ 1 7 = nI nc) (hn12 : nc ≤ 12) {c : Nat} (hc : c < nc) {p : Nat} (hp : p < 24) {w : Nat} (hw : w < 6)  : zCt E kX7_at [.ref (1), .int (nI c), .int (nI p), .int (nI w)] (zm μ g) (.inl (some (.int (zat μ c p w))), zm (μ) g) := by
  refine zCt_of ko_X7_at (Nat.le_of_ble_eq_true rfl) (zas_r (zas_i (zas_i (zas_i zas_0)))) ⟨Nat.le_refl _, fun h => absurd h (Nat.lt_irrefl _)⟩ (Nat.le_of_ble_eq_true rfl) ?_
  show zV false E kX7_at 116 _ 0 [.ref (1), .int (nI c), .int (nI p), .int (nI w), .null] [] (zm μ g) 0 0
  refine z_aload_n rfl rfl dX7_at_0 ?_
  refine z_iload_n rfl rfl dX7_at_1 ?_
  refine z_callV (as := [.int (nI c)]) (ct_X7_chartOf hnc hn12 (c := c) (by omega)) ko_X7_chartOf kl_X7_169 rfl (zl_a rfl rfl) rfl rfl ⟨by decide, by decide, by decide, by decide⟩ (Nat.le_of_ble_eq_true rfl) rfl dX7_at_2 ?_
  refine z_astore (by decide) rfl dX7_at_5 ?_
  refine z_iload_n rfl rfl dX7_at_7 ?_
  refine z_callS (as := [.int (nI p)]) (ct_X7_needPoint (j := p) (by omega)) ko_X7_needPoint kl_X7_62 rfl rfl ⟨by decide, by decide, by decide, by decide⟩ (Nat.le_of_ble_eq_true rfl) rfl dX7_at_8 ?_
  refine z_iload_n rfl rfl dX7_at_11 ?_
  have hws : w = 0 ∨ w = 1 ∨ w = 2 ∨ w = 3 ∨ w = 4 ∨ w = 5 := by omega
  rcases hws with rfl | rfl | rfl | rfl | rfl | rfl
  · refine z_tabIn (40) 52 (by decide) (by decide) (by decide) (by decide) dX7_at_12 ?_
    refine z_aload rfl dX7_at_52 ?_
    refine m_getR (34 + 7 * c) kf_X7_182 (zc0 (by omega)) rfl (zl_rc (by omega)).1 (by omega) dX7_at_54 ?_
    refine z_iload_n rfl rfl dX7_at_57 ?_
    refine m_iald (p) (zc1 (by omega)) rfl (by omega) (by decide) dX7_at_58 ?_
    exact z_iret (rfl) rfl (znarI _) (by decide) (by decide) dX7_at_59
  · refine z_tabIn (48) 60 (by decide) (by decide) (by decide) (by decide) dX7_at_12 ?_
    refine z_aload rfl dX7_at_60 ?_
    refine m_getR (35 + 7 * c) kf_X7_187 (zc0 (by omega)) rfl (zl_rc (by omega)).2.1 (by omega) dX7_at_62 ?_
    refine z_iload_n rfl rfl dX7_at_65 ?_
    refine m_iald (p) (zc2 (by omega)) rfl (by omega) (by decide) dX7_at_66 ?_
    exact z_iret (rfl) rfl (znarI _) (by decide) (by decide) dX7_at_67
  · refine z_tabIn (56) 68 (by decide) (by decide) (by decide) (by decide) dX7_at_12 ?_
    refine z_aload rfl dX7_at_68 ?_
    refine m_getR (36 + 7 * c) kf_X7_143 (zc0 (by omega)) rfl (zl_rc (by omega)).2.2.1 (by omega) dX7_at_70 ?_
    refine z_iload_n rfl rfl dX7_at_73 ?_
    refine m_iald (p) (zc3 (by omega)) rfl (by omega) (by decide) dX7_at_74 ?_
    exact z_iret (rfl) rfl (znarI _) (by decide) (by decide) dX7_at_75
  · refine z_tabIn (64) 76 (by decide) (by decide) (by decide) (by decide) dX7_at_12 ?_
    refine z_aload rfl dX7_at_76 ?_
    refine m_getR (37 + 7 * c) kf_X7_244 (zc0 (by omega)) rfl (zl_rc (by omega)).2.2.2.1 (by omega) dX7_at_78 ?_
    refine z_iload_n rfl rfl dX7_at_81 ?_
    refine m_iald (p) (zc4 (by omega)) rfl (by omega) (by decide) dX7_at_82 ?_
    exact z_iret (rfl) rfl (znarI _) (by decide) (by decide) dX7_at_83
  · refine z_tabIn (72) 84 (by decide) (by decide) (by decide) (by decide) dX7_at_12 ?_
    refine z_aload rfl dX7_at_84 ?_
    refine z_iload_n rfl rfl dX7_at_86 ?_
    refine z_callV (as := [.int (nI p)]) (ct_X0_knows (c := c) (p := p) (by omega) (by omega)) ko_X0_knows kl_X7_179 rfl (zc0 (by omega)) rfl rfl ⟨by decide, by decide, by decide, by decide⟩ (Nat.le_of_ble_eq_true rfl) rfl dX7_at_87 ?_
    refine z_if_eq 104 (by decide) dX7_at_90 (z_br zb_0 (fun h1 => ?_)) (z_br zb_n (fun h2 => ?_))
    · refine z_ldc (100000) kc_X7_251 dX7_at_104 ?_
      exact z_iret (zlf_int (if_neg h1)) rfl (znarI _) (by decide) (by decide) dX7_at_106
    · refine z_aload_n rfl rfl dX7_at_93 ?_
      refine z_aload rfl dX7_at_94 ?_
      refine z_iload_n rfl rfl dX7_at_96 ?_
      refine z_iconst (nI 1) (by decide) dX7_at_97 ?_
      refine z_callV (as := [.ref (33 + 7 * c), .int (nI p), .int (nI 1)]) (ct_X7_errorOfX (c := c) (p := p) (by omega) (by omega)) ko_X7_errorOf kl_X7_247 rfl (zl_a rfl rfl) rfl rfl ⟨by decide, by decide, by decide, by decide⟩ (Nat.le_of_ble_eq_true rfl) rfl dX7_at_98 ?_
      refine z_goto 106 (by decide) dX7_at_101 ?_
      exact z_iret (zlf_int (if_pos h2)) rfl (znarI _) (by decide) (by decide) dX7_at_106
  · refine z_tabIn (95) 107 (by decide) (by decide) (by decide) (by decide) dX7_at_12 ?_
    refine z_aload rfl dX7_at_107 ?_
    refine z_iload_n rfl rfl dX7_at_109 ?_
    refine z_callV (as := [.int (nI p)]) (ct_X0_knows (c := c) (p := p) (by omega) (by omega)) ko_X0_knows kl_X7_179 rfl (zc0 (by omega)) rfl rfl ⟨by decide, by decide, by decide, by decide⟩ (Nat.le_of_ble_eq_true rfl) rfl dX7_at_110 ?_
    refine z_if_eq 127 (by decide) dX7_at_113 (z_br zb_0 (fun h3 => ?_)) (z_br zb_n (fun h4 => ?_))
    · refine z_ldc (100000) kc_X7_251 dX7_at_127 ?_
      exact z_iret (zlf_int (if_neg h3)) rfl (znarI _) (by decide) (by decide) dX7_at_129
    · refine z_aload_n rfl rfl dX7_at_116 ?_
      refine z_aload rfl dX7_at_117 ?_
      refine z_iload_n rfl rfl dX7_at_119 ?_
      refine z_iconst (nI 0) (by decide) dX7_at_120 ?_
      refine z_callV (as := [.ref (33 + 7 * c), .int (nI p), .int (nI 0)]) (ct_X7_errorOfY (c := c) (p := p) (by omega) (by omega)) ko_X7_errorOf kl_X7_247 rfl (zl_a rfl rfl) rfl rfl ⟨by decide, by decide, by decide, by decide⟩ (Nat.le_of_ble_eq_true rfl) rfl dX7_at_121 ?_
      refine z_goto 129 (by decide) dX7_at_124 ?_
      exact z_iret (zlf_int (if_pos h4)) rfl (znarI _) (by decide) (by decide) dX7_at_129
set_option maxRecDepth 100000 in
set_option maxHeartbeats 4000000 in
theorem ct_X7_of {E : Nat × (Nat → Int32)} {μ : Nat → Nat → Int32} {g : zLw} {nc : Nat} (hnc : μ 1 7 = nI nc) (hn12 : nc ≤ 12) {c : Nat} (hc : c < nc) {w : Nat} (hw : w < 7)  : zCt E kX7_of [.ref (1), .int (nI c), .int (nI w)] (zm μ g) (.inl (some (.int (zof μ c w))), zm (μ) g) := by
  refine zCt_of ko_X7_of (Nat.le_of_ble_eq_true rfl) (zas_r (zas_i (zas_i zas_0))) ⟨Nat.le_refl _, fun h => absurd h (Nat.lt_irrefl _)⟩ (Nat.le_of_ble_eq_true rfl) ?_
  show zV false E kX7_of 116 _ 0 [.ref (1), .int (nI c), .int (nI w), .null] [] (zm μ g) 0 0
  refine z_aload_n rfl rfl dX7_of_0 ?_
  refine z_iload_n rfl rfl dX7_of_1 ?_
  refine z_callV (as := [.int (nI c)]) (ct_X7_chartOf hnc hn12 (c := c) (by omega)) ko_X7_chartOf kl_X7_169 rfl (zl_a rfl rfl) rfl rfl ⟨by decide, by decide, by decide, by decide⟩ (Nat.le_of_ble_eq_true rfl) rfl dX7_of_2 ?_
  refine z_astore_n rfl (by decide) rfl dX7_of_5 ?_
  refine z_iload_n rfl rfl dX7_of_6 ?_
  have hws : w = 0 ∨ w = 1 ∨ w = 2 ∨ w = 3 ∨ w = 4 ∨ w = 5 ∨ w = 6 := by omega
  rcases hws with rfl | rfl | rfl | rfl | rfl | rfl | rfl
  · refine z_tabIn (41) 48 (by decide) (by decide) (by decide) (by decide) dX7_of_7 ?_
    refine z_aload_n rfl rfl dX7_of_48 ?_
    refine m_getI kf_X7_138 (zc0 (by omega)) rfl dX7_of_49 ?_
    exact z_iret (rfl) rfl (znarI _) (by decide) (by decide) dX7_of_52
  · refine z_tabIn (46) 53 (by decide) (by decide) (by decide) (by decide) dX7_of_7 ?_
    refine z_aload_n rfl rfl dX7_of_53 ?_
    refine z_iconst (nI 0) (by decide) dX7_of_54 ?_
    refine z_bipush (nI 23) (by decide) dX7_of_55 ?_
    refine z_callV (as := [.int (nI 0), .int (nI 23)]) (ct_X0_knownFrom (c := c) (f := 0) (t := 23) (by omega) (by omega) (by omega)) ko_X0_knownFrom kl_X7_207 rfl (zc0 (by omega)) rfl rfl ⟨by decide, by decide, by decide, by decide⟩ (Nat.le_of_ble_eq_true rfl) rfl dX7_of_57 ?_
    exact z_iret (rfl) rfl (znarI _) (by decide) (by decide) dX7_of_60
  · refine z_tabIn (54) 61 (by decide) (by decide) (by decide) (by decide) dX7_of_7 ?_
    refine z_aload_n rfl rfl dX7_of_61 ?_
    refine z_callV (as := []) (ct_X0_islandCount (c := c) (by omega)) ko_X0_islandCount kl_X7_259 rfl (zc0 (by omega)) rfl rfl ⟨by decide, by decide, by decide, by decide⟩ (Nat.le_of_ble_eq_true rfl) rfl dX7_of_62 ?_
    exact z_iret (rfl) rfl (znarI _) (by decide) (by decide) dX7_of_65
  · refine z_tabIn (59) 66 (by decide) (by decide) (by decide) (by decide) dX7_of_7 ?_
    refine z_aload_n rfl rfl dX7_of_66 ?_
    refine m_getR (38 + 7 * c) kf_X7_144 (zc0 (by omega)) rfl (zl_rc (by omega)).2.2.2.2.1 (by omega) dX7_of_67 ?_
    refine z_iload_n rfl rfl dX7_of_70 ?_
    refine z_iconst (nI 3) (by decide) dX7_of_71 ?_
    refine m_subN (by omega) dX7_of_72 ?_
    refine m_iald (3 - 3) (zc5 (by omega)) rfl (by omega) (by decide) dX7_of_73 ?_
    exact z_iret (rfl) rfl (znarI _) (by decide) (by decide) dX7_of_74
  · refine z_tabIn (59) 66 (by decide) (by decide) (by decide) (by decide) dX7_of_7 ?_
    refine z_aload_n rfl rfl dX7_of_66 ?_
    refine m_getR (38 + 7 * c) kf_X7_144 (zc0 (by omega)) rfl (zl_rc (by omega)).2.2.2.2.1 (by omega) dX7_of_67 ?_
    refine z_iload_n rfl rfl dX7_of_70 ?_
    refine z_iconst (nI 3) (by decide) dX7_of_71 ?_
    refine m_subN (by omega) dX7_of_72 ?_
    refine m_iald (4 - 3) (zc5 (by omega)) rfl (by omega) (by decide) dX7_of_73 ?_
    exact z_iret (rfl) rfl (znarI _) (by decide) (by decide) dX7_of_74
  · refine z_tabIn (59) 66 (by decide) (by decide) (by decide) (by decide) dX7_of_7 ?_
    refine z_aload_n rfl rfl dX7_of_66 ?_
    refine m_getR (38 + 7 * c) kf_X7_144 (zc0 (by omega)) rfl (zl_rc (by omega)).2.2.2.2.1 (by omega) dX7_of_67 ?_
    refine z_iload_n rfl rfl dX7_of_70 ?_
    refine z_iconst (nI 3) (by decide) dX7_of_71 ?_
    refine m_subN (by omega) dX7_of_72 ?_
    refine m_iald (5 - 3) (zc5 (by omega)) rfl (by omega) (by decide) dX7_of_73 ?_
    exact z_iret (rfl) rfl (znarI _) (by decide) (by decide) dX7_of_74
  · refine z_tabIn (68) 75 (by decide) (by decide) (by decide) (by decide) dX7_of_7 ?_
    refine z_aload_n rfl rfl dX7_of_75 ?_
    refine z_aload_n rfl rfl dX7_of_76 ?_
    refine z_callV (as := [.ref (33 + 7 * c)]) (ct_X7_falseNames (c := c) (by omega)) ko_X7_falseNames kl_X7_263 rfl (zl_a rfl rfl) rfl rfl ⟨by decide, by decide, by decide, by decide⟩ (Nat.le_of_ble_eq_true rfl) rfl dX7_of_77 ?_
    exact z_iret (rfl) rfl (znarI _) (by decide) (by decide) dX7_of_80
set_option maxRecDepth 100000 in
set_option maxHeartbeats 4000000 in
theorem ct_X7_fit {E : Nat × (Nat → Int32)} {μ : Nat → Nat → Int32} {g : zLw} {nc : Nat} (hnc : μ 1 7 = nI nc) (hn12 : nc ≤ 12) {c : Nat} (hc : c < nc) {b : Nat} (hb : b < 3) {w : Nat} (hw : w < 3)  : zCt E kX7_fit [.ref (1), .int (nI c), .int (nI b), .int (nI w)] (zm μ g) (.inl (some (.int (zfi μ c b w))), zm (μ) g) := by
  refine zCt_of ko_X7_fit (Nat.le_of_ble_eq_true rfl) (zas_r (zas_i (zas_i (zas_i zas_0)))) ⟨Nat.le_refl _, fun h => absurd h (Nat.lt_irrefl _)⟩ (Nat.le_of_ble_eq_true rfl) ?_
  show zV false E kX7_fit 116 _ 0 [.ref (1), .int (nI c), .int (nI b), .int (nI w), .null] [] (zm μ g) 0 0
  refine z_aload_n rfl rfl dX7_fit_0 ?_
  refine z_iload_n rfl rfl dX7_fit_1 ?_
  refine z_callV (as := [.int (nI c)]) (ct_X7_chartOf hnc hn12 (c := c) (by omega)) ko_X7_chartOf kl_X7_169 rfl (zl_a rfl rfl) rfl rfl ⟨by decide, by decide, by decide, by decide⟩ (Nat.le_of_ble_eq_true rfl) rfl dX7_fit_2 ?_
  refine z_astore (by decide) rfl dX7_fit_5 ?_
  refine z_iload_n rfl rfl dX7_fit_7 ?_
  refine z_callS (as := [.int (nI b)]) (ct_X7_needBasin (j := b) (by omega)) ko_X7_needBasin kl_X7_225 rfl rfl ⟨by decide, by decide, by decide, by decide⟩ (Nat.le_of_ble_eq_true rfl) rfl dX7_fit_8 ?_
  refine z_iload_n rfl rfl dX7_fit_11 ?_
  have hws : w = 0 ∨ w = 1 ∨ w = 2 := by omega
  rcases hws with rfl | rfl | rfl
  · refine z_tabIn (28) 40 (by decide) (by decide) (by decide) (by decide) dX7_fit_12 ?_
    refine z_aload_n rfl rfl dX7_fit_40 ?_
    refine z_aload rfl dX7_fit_41 ?_
    refine z_iload_n rfl rfl dX7_fit_43 ?_
    refine z_iconst (nI 1) (by decide) dX7_fit_44 ?_
    refine z_callV (as := [.ref (33 + 7 * c), .int (nI b), .int (nI 1)]) (ct_X7_shiftX (c := c) (b := b) (by omega) (by omega)) ko_X7_shift kl_X7_273 rfl (zl_a rfl rfl) rfl rfl ⟨by decide, by decide, by decide, by decide⟩ (Nat.le_of_ble_eq_true rfl) rfl dX7_fit_45 ?_
    exact z_iret (rfl) rfl (znarI _) (by decide) (by decide) dX7_fit_48
  · refine z_tabIn (37) 49 (by decide) (by decide) (by decide) (by decide) dX7_fit_12 ?_
    refine z_aload_n rfl rfl dX7_fit_49 ?_
    refine z_aload rfl dX7_fit_50 ?_
    refine z_iload_n rfl rfl dX7_fit_52 ?_
    refine z_iconst (nI 0) (by decide) dX7_fit_53 ?_
    refine z_callV (as := [.ref (33 + 7 * c), .int (nI b), .int (nI 0)]) (ct_X7_shiftY (c := c) (b := b) (by omega) (by omega)) ko_X7_shift kl_X7_273 rfl (zl_a rfl rfl) rfl rfl ⟨by decide, by decide, by decide, by decide⟩ (Nat.le_of_ble_eq_true rfl) rfl dX7_fit_54 ?_
    exact z_iret (rfl) rfl (znarI _) (by decide) (by decide) dX7_fit_57
  · refine z_tabIn (46) 58 (by decide) (by decide) (by decide) (by decide) dX7_fit_12 ?_
    refine z_aload_n rfl rfl dX7_fit_58 ?_
    refine z_aload rfl dX7_fit_59 ?_
    refine z_iload_n rfl rfl dX7_fit_61 ?_
    refine z_callV (as := [.ref (33 + 7 * c), .int (nI b)]) (ct_X7_residual (c := c) (b := b) (by omega) (by omega)) ko_X7_residual kl_X7_276 rfl (zl_a rfl rfl) rfl rfl ⟨by decide, by decide, by decide, by decide⟩ (Nat.le_of_ble_eq_true rfl) rfl dX7_fit_62 ?_
    exact z_iret (rfl) rfl (znarI _) (by decide) (by decide) dX7_fit_65
set_option maxRecDepth 100000 in
set_option maxHeartbeats 4000000 in
theorem lp_X7_chain {E : Nat × (Nat → Int32)} {g : zLw} {μ : zMu} {nc : Nat} (hnc : μ 1 7 = nI nc) (hn12 : nc ≤ 12) {c p k : Nat} (hp : p < 24) (hk : k < 12) : ∀ (n : Nat) (m : Nat) (l : Int32), k - m = n → m ≤ k → l = zit (fun _ l => zsrc μ nc p l) 0 m (nI c) → zV false E kX7_chain 116 (.inl (some (.int (zit (fun _ l => zsrc μ nc p l) 0 k (nI c)))), zm μ g) 48 [.ref (1), .int (nI c), .int (nI p), .int (nI k), .ref (33 + 7 * c), .int (l), .int (nI m)] [] (zm μ g) 2 12 := by
  intro n
  induction n using Nat.strongRecOn with
  | ind n ih =>
    intro m l hm hle hs 
    refine z_iload rfl dX7_chain_48 ?_
    refine z_iload_n rfl rfl dX7_chain_50 ?_
    refine z_icmp_ge 69 (by decide) dX7_chain_51 (z_br (zcn (n := k) (by omega) (m) (by omega)).2.2 (fun h1 => ?_)) (z_brn (zcn (n := k) (by omega) (m) (by omega)).2.2 (fun h2 => ?_))
    · have hmL : m = k := by omega
      have hz : zit (fun _ l => zsrc μ nc p l) 0 k (nI c) = l := by rw [hs, hmL]
      refine z_iload rfl dX7_chain_69 ?_
      exact z_iret (by rw [hz]) rfl (znarI _) (by decide) (by decide) dX7_chain_71
    · refine z_aload_n rfl rfl dX7_chain_54 ?_
      refine z_iload rfl dX7_chain_55 ?_
      refine z_iload_n rfl rfl dX7_chain_57 ?_
      refine z_callV (as := [.int (l), .int (nI p)]) (ct_X7_sourceOf hnc hn12 (p := p) (by omega) (l)) ko_X7_sourceOf kl_X7_256 rfl (zl_a rfl rfl) rfl rfl ⟨by decide, by decide, by decide, by decide⟩ (Nat.le_of_ble_eq_true rfl) rfl dX7_chain_58 ?_
      refine z_istore (by decide) rfl dX7_chain_61 ?_
      refine z_iinc (nI (m + 1)) rfl (zinc _) (by decide) rfl dX7_chain_63 ?_
      refine z_goto 48 (by decide) dX7_chain_66 ?_
      exact ih (k - (m + 1)) (by omega) (m + 1) (zsrc μ nc p (l)) rfl (by omega) (zst0 hs (rfl))
set_option maxRecDepth 100000 in
set_option maxHeartbeats 4000000 in
theorem ct_X7_chain {E : Nat × (Nat → Int32)} {μ : Nat → Nat → Int32} {g : zLw} {nc : Nat} (hnc : μ 1 7 = nI nc) (hn12 : nc ≤ 12) {c : Nat} (hc : c < nc) {p k : Nat} (hp : p < 24) (hk : k < 2147483648) : zCt E kX7_chain [.ref (1), .int (nI c), .int (nI p), .int (nI k)] (zm μ g) (.inl (some (.int (zchn μ nc c p k))), zm (μ) g) := by
  refine zCt_of ko_X7_chain (Nat.le_of_ble_eq_true rfl) (zas_r (zas_i (zas_i (zas_i zas_0)))) ⟨Nat.le_refl _, fun h => absurd h (Nat.lt_irrefl _)⟩ (Nat.le_of_ble_eq_true rfl) ?_
  show zV false E kX7_chain 116 _ 0 [.ref (1), .int (nI c), .int (nI p), .int (nI k), .null, .null, .null] [] (zm μ g) 0 0
  refine z_aload_n rfl rfl dX7_chain_0 ?_
  refine z_iload_n rfl rfl dX7_chain_1 ?_
  refine z_callV (as := [.int (nI c)]) (ct_X7_chartOf hnc hn12 (c := c) (by omega)) ko_X7_chartOf kl_X7_169 rfl (zl_a rfl rfl) rfl rfl ⟨by decide, by decide, by decide, by decide⟩ (Nat.le_of_ble_eq_true rfl) rfl dX7_chain_2 ?_
  refine z_astore (by decide) rfl dX7_chain_5 ?_
  refine z_iload_n rfl rfl dX7_chain_7 ?_
  refine z_callS (as := [.int (nI p)]) (ct_X7_needPoint (j := p) (by omega)) ko_X7_needPoint kl_X7_62 rfl rfl ⟨by decide, by decide, by decide, by decide⟩ (Nat.le_of_ble_eq_true rfl) rfl dX7_chain_8 ?_
  refine z_iload_n rfl rfl dX7_chain_11 ?_
  refine z_if_ge 25 (by decide) dX7_chain_12 (fun _ => ?_) (fun h => absurd (nI_pos' (n := k) (by omega)) h)
  refine z_iload_n rfl rfl dX7_chain_25 ?_
  refine z_bipush (nI 12) (by decide) dX7_chain_26 ?_
  refine z_icmp_ge 40 (by decide) dX7_chain_28 (z_br (zcn (n := 12) (by omega) (k) (by omega)).2.2 (fun h3 => ?_)) (z_brn (zcn (n := 12) (by omega) (k) (by omega)).2.2 (fun h4 => ?_))
  · refine z_iconst (-1) (by decide) dX7_chain_40 ?_
    exact z_iret (by rw [zchn, if_pos (by first | exact Or.inl (by omega) | exact Or.inr (by assumption))]) rfl (znarI _) (by decide) (by decide) dX7_chain_41
  · refine z_aload rfl dX7_chain_31 ?_
    refine z_iload_n rfl rfl dX7_chain_33 ?_
    refine z_callV (as := [.int (nI p)]) (ct_X0_knows (c := c) (p := p) (by omega) (by omega)) ko_X0_knows kl_X7_179 rfl (zc0 (by omega)) rfl rfl ⟨by decide, by decide, by decide, by decide⟩ (Nat.le_of_ble_eq_true rfl) rfl dX7_chain_34 ?_
    refine z_if_ne 42 (by decide) dX7_chain_37 (z_br zb_n (fun h5 => ?_)) (z_br zb_0 (fun h6 => ?_))
    · refine z_iload_n rfl rfl dX7_chain_42 ?_
      refine z_istore (by decide) rfl dX7_chain_43 ?_
      refine z_iconst (nI 0) (by decide) dX7_chain_45 ?_
      refine z_istore (by decide) rfl dX7_chain_46 ?_
      refine z_oeq (by rw [zchn, if_neg (fun q => q.elim (fun q => by omega) (fun q => q (by assumption)))]) ?_
      exact lp_X7_chain hnc hn12 (c := c) (p := p) (k := k) (by omega) (by omega) _ 0 _ rfl (Nat.zero_le _) rfl
    · refine z_iconst (-1) (by decide) dX7_chain_40 ?_
      exact z_iret (by rw [zchn, if_pos (by first | exact Or.inl (by omega) | exact Or.inr (by assumption))]) rfl (znarI _) (by decide) (by decide) dX7_chain_41
set_option maxRecDepth 100000 in
set_option maxHeartbeats 4000000 in
theorem ct_X7_shared {E : Nat × (Nat → Int32)} {μ : Nat → Nat → Int32} {g : zLw} {nc : Nat} (hnc : μ 1 7 = nI nc) (hn12 : nc ≤ 12) {c : Nat} (hc : c < nc) {d b : Nat} (hd : d < nc) (hb : b < 3) : zCt E kX7_shared [.ref (1), .int (nI c), .int (nI d), .int (nI b)] (zm μ g) (.inl (some (.int (cshared μ c d b))), zm (μ) g) := by
  refine zCt_of ko_X7_shared (Nat.le_of_ble_eq_true rfl) (zas_r (zas_i (zas_i (zas_i zas_0)))) ⟨Nat.le_refl _, fun h => absurd h (Nat.lt_irrefl _)⟩ (Nat.le_of_ble_eq_true rfl) ?_
  show zV false E kX7_shared 116 _ 0 [.ref (1), .int (nI c), .int (nI d), .int (nI b), .null, .null] [] (zm μ g) 0 0
  refine z_aload_n rfl rfl dX7_shared_0 ?_
  refine z_iload_n rfl rfl dX7_shared_1 ?_
  refine z_callV (as := [.int (nI c)]) (ct_X7_chartOf hnc hn12 (c := c) (by omega)) ko_X7_chartOf kl_X7_169 rfl (zl_a rfl rfl) rfl rfl ⟨by decide, by decide, by decide, by decide⟩ (Nat.le_of_ble_eq_true rfl) rfl dX7_shared_2 ?_
  refine z_astore (by decide) rfl dX7_shared_5 ?_
  refine z_aload_n rfl rfl dX7_shared_7 ?_
  refine z_iload_n rfl rfl dX7_shared_8 ?_
  refine z_callV (as := [.int (nI d)]) (ct_X7_chartOf hnc hn12 (c := d) (by omega)) ko_X7_chartOf kl_X7_169 rfl (zl_a rfl rfl) rfl rfl ⟨by decide, by decide, by decide, by decide⟩ (Nat.le_of_ble_eq_true rfl) rfl dX7_shared_9 ?_
  refine z_astore (by decide) rfl dX7_shared_12 ?_
  refine z_iload_n rfl rfl dX7_shared_14 ?_
  refine z_callS (as := [.int (nI b)]) (ct_X7_needBasin (j := b) (by omega)) ko_X7_needBasin kl_X7_225 rfl rfl ⟨by decide, by decide, by decide, by decide⟩ (Nat.le_of_ble_eq_true rfl) rfl dX7_shared_15 ?_
  refine z_aload_n rfl rfl dX7_shared_18 ?_
  refine z_aload rfl dX7_shared_19 ?_
  refine z_aload rfl dX7_shared_21 ?_
  refine z_iload_n rfl rfl dX7_shared_23 ?_
  refine z_callV (as := [.ref (33 + 7 * c), .ref (33 + 7 * d), .int (nI b)]) (ct_X7_sharedBy (c := c) (d := d) (b := b) (by omega) (by omega) (by omega)) ko_X7_sharedBy kl_X7_280 rfl (zl_a rfl rfl) rfl rfl ⟨by decide, by decide, by decide, by decide⟩ (Nat.le_of_ble_eq_true rfl) rfl dX7_shared_24 ?_
  exact z_iret (rfl) rfl (znarI _) (by decide) (by decide) dX7_shared_27
set_option maxRecDepth 100000 in
set_option maxHeartbeats 4000000 in
theorem lp_X7_kin {E : Nat × (Nat → Int32)} {g : zLw} {μ : zMu} {c b : Nat} (hc : c < 12) (hb : b < 3) : ∀ (n : Nat) (m : Nat) (x : Int32) (y : Int32), c - m = n → m ≤ c → (x, y) = zit (ckin μ c b) 0 m (-1, nI 0) → zV false E kX7_kin 116 (.inl (some (.int (zit (ckin μ c b) 0 c (-1, nI 0)).1)), zm μ g) 19 [.ref (1), .int (nI c), .int (nI b), .ref (33 + 7 * c), .int (x), .int (y), .int (nI m), .null] [] (zm μ g) 2 12 := by
  intro n
  induction n using Nat.strongRecOn with
  | ind n ih =>
    intro m x y hm hle hs 
    refine z_iload rfl dX7_kin_19 ?_
    refine z_iload_n rfl rfl dX7_kin_21 ?_
    refine z_icmp_ge 61 (by decide) dX7_kin_22 (z_br (zcn (n := c) (by omega) (m) (by omega)).2.2 (fun h1 => ?_)) (z_brn (zcn (n := c) (by omega) (m) (by omega)).2.2 (fun h2 => ?_))
    · have hmL : m = c := by omega
      have hz : zit (ckin μ c b) 0 c (-1, nI 0) = (x, y) := by rw [hs, hmL]
      refine z_iload rfl dX7_kin_61 ?_
      exact z_iret (by rw [hz]) rfl (znarI _) (by decide) (by decide) dX7_kin_63
    · refine z_aload_n rfl rfl dX7_kin_25 ?_
      refine z_aload_n rfl rfl dX7_kin_26 ?_
      refine z_aload_n rfl rfl dX7_kin_27 ?_
      refine m_getR (20) kf_X7_45 (zl_a rfl rfl) rfl rfl (by decide) dX7_kin_28 ?_
      refine z_iload rfl dX7_kin_31 ?_
      refine m_aald (m) (33 + 7 * m) (by decide) (zl_a rfl rfl) rfl (by omega) (by decide) rfl (by omega) dX7_kin_33 ?_
      refine z_iload_n rfl rfl dX7_kin_34 ?_
      refine z_callV (as := [.ref (33 + 7 * c), .ref (33 + 7 * m), .int (nI b)]) (ct_X7_sharedBy (c := c) (d := m) (b := b) (by omega) (by omega) (by omega)) ko_X7_sharedBy kl_X7_280 rfl (zl_a rfl rfl) rfl rfl ⟨by decide, by decide, by decide, by decide⟩ (Nat.le_of_ble_eq_true rfl) rfl dX7_kin_35 ?_
      refine z_istore (by decide) rfl dX7_kin_38 ?_
      refine z_iload rfl dX7_kin_40 ?_
      refine z_iload rfl dX7_kin_42 ?_
      refine z_icmp_le 55 (by decide) dX7_kin_44 (fun h3 => ?_) (fun h4 => ?_)
      · refine z_iinc (nI (m + 1)) rfl (zinc _) (by decide) rfl dX7_kin_55 ?_
        refine z_goto 19 (by decide) dX7_kin_58 ?_
        refine z_fgt [.ref (1), .int (nI c), .int (nI b), .ref (33 + 7 * c), .int (x), .int (y), .int (nI (m + 1)), .null] ⟨Or.inl rfl, ⟨Or.inl rfl, ⟨Or.inl rfl, ⟨Or.inl rfl, ⟨Or.inl rfl, ⟨Or.inl rfl, ⟨Or.inl rfl, ⟨Or.inr rfl, trivial⟩⟩⟩⟩⟩⟩⟩⟩ ?_
        exact ih (c - (m + 1)) (by omega) (m + 1) (x) (y) rfl (by omega) (zst0 hs (by rw [ckin, if_pos (by assumption)]))
      · refine z_iload rfl dX7_kin_47 ?_
        refine z_istore (by decide) rfl dX7_kin_49 ?_
        refine z_iload rfl dX7_kin_51 ?_
        refine z_istore (by decide) rfl dX7_kin_53 ?_
        refine z_iinc (nI (m + 1)) rfl (zinc _) (by decide) rfl dX7_kin_55 ?_
        refine z_goto 19 (by decide) dX7_kin_58 ?_
        refine z_fgt [.ref (1), .int (nI c), .int (nI b), .ref (33 + 7 * c), .int (nI m), .int (cshared μ c m b), .int (nI (m + 1)), .null] ⟨Or.inl rfl, ⟨Or.inl rfl, ⟨Or.inl rfl, ⟨Or.inl rfl, ⟨Or.inl rfl, ⟨Or.inl rfl, ⟨Or.inl rfl, ⟨Or.inr rfl, trivial⟩⟩⟩⟩⟩⟩⟩⟩ ?_
        exact ih (c - (m + 1)) (by omega) (m + 1) (nI m) (cshared μ c m b) rfl (by omega) (zst0 hs (by rw [ckin, if_neg (by assumption)]))
set_option maxRecDepth 100000 in
set_option maxHeartbeats 4000000 in
theorem ct_X7_kin {E : Nat × (Nat → Int32)} {μ : Nat → Nat → Int32} {g : zLw} {nc : Nat} (hnc : μ 1 7 = nI nc) (hn12 : nc ≤ 12) {c : Nat} (hc : c < nc) {b : Nat} (hb : b < 3) : zCt E kX7_kin [.ref (1), .int (nI c), .int (nI b)] (zm μ g) (.inl (some (.int ((zit (ckin μ c b) 0 c (-1, nI 0)).1))), zm (μ) g) := by
  refine zCt_of ko_X7_kin (Nat.le_of_ble_eq_true rfl) (zas_r (zas_i (zas_i zas_0))) ⟨Nat.le_refl _, fun h => absurd h (Nat.lt_irrefl _)⟩ (Nat.le_of_ble_eq_true rfl) ?_
  show zV false E kX7_kin 116 _ 0 [.ref (1), .int (nI c), .int (nI b), .null, .null, .null, .null, .null] [] (zm μ g) 0 0
  refine z_aload_n rfl rfl dX7_kin_0 ?_
  refine z_iload_n rfl rfl dX7_kin_1 ?_
  refine z_callV (as := [.int (nI c)]) (ct_X7_chartOf hnc hn12 (c := c) (by omega)) ko_X7_chartOf kl_X7_169 rfl (zl_a rfl rfl) rfl rfl ⟨by decide, by decide, by decide, by decide⟩ (Nat.le_of_ble_eq_true rfl) rfl dX7_kin_2 ?_
  refine z_astore_n rfl (by decide) rfl dX7_kin_5 ?_
  refine z_iload_n rfl rfl dX7_kin_6 ?_
  refine z_callS (as := [.int (nI b)]) (ct_X7_needBasin (j := b) (by omega)) ko_X7_needBasin kl_X7_225 rfl rfl ⟨by decide, by decide, by decide, by decide⟩ (Nat.le_of_ble_eq_true rfl) rfl dX7_kin_7 ?_
  refine z_iconst (-1) (by decide) dX7_kin_10 ?_
  refine z_istore (by decide) rfl dX7_kin_11 ?_
  refine z_iconst (nI 0) (by decide) dX7_kin_13 ?_
  refine z_istore (by decide) rfl dX7_kin_14 ?_
  refine z_iconst (nI 0) (by decide) dX7_kin_16 ?_
  refine z_istore (by decide) rfl dX7_kin_17 ?_
  exact lp_X7_kin (c := c) (b := b) (by omega) (by omega) _ 0 _ _ rfl (Nat.zero_le _) rfl
