/-! the reference: fit, shared, kin, date (printed by wip/whole/gen_l.py) -/
set_option maxRecDepth 100000 in
set_option maxHeartbeats 4000000 in
theorem lp_X8_shifts {E : Nat × (Nat → Int32)} {g : Int64} {μ : zMu} {c b : Nat} (hc : c < 12) (hb : b < 3) {O : zO} (kk : zV false E kX8_shifts 145 O 106 [.ref (117), .int (nI c), .int (nI b), .int ((zit (dsf c) (8 * b) 8 (nI 0, μ)).1), .null, .null] [] (zm (zit (dsf c) (8 * b) 8 (nI 0, μ)).2 g) 0 0) : ∀ (n : Nat) (m : Nat) (s : Int32) (ν : zMu), 8 - m = n → m ≤ 8 → (s, ν) = zit (dsf c) ((8 * b)) m (nI 0, μ) → zV false E kX8_shifts 145 O 18 [.ref (117), .int (nI c), .int (nI b), .int (s), .int (nI (((8 * b)) + m)), .null] [] (zm ν g) 0 0 := by
  intro n
  induction n using Nat.strongRecOn with
  | ind n ih =>
    intro m s ν hm hle hs 
    refine z_iload rfl dX8_shifts_18 ?_
    refine z_bipush (nI 8) (by decide) dX8_shifts_20 ?_
    refine z_iload_n rfl rfl dX8_shifts_22 ?_
    refine m_mulN dX8_shifts_23 ?_
    refine z_bipush (nI 8) (by decide) dX8_shifts_24 ?_
    refine m_addN dX8_shifts_26 ?_
    refine z_icmp_ge 106 (by decide) dX8_shifts_27 (z_br (zcn (n := (8 * b) + 8) (by omega) (((8 * b)) + m) (by omega)).2.2 (fun h1 => ?_)) (z_brn (zcn (n := (8 * b) + 8) (by omega) (((8 * b)) + m) (by omega)).2.2 (fun h2 => ?_))
    · have hmL : m = 8 := by omega
      have hz : zit (dsf c) ((8 * b)) 8 (nI 0, μ) = (s, ν) := by rw [hs, hmL]
      rw [hz] at kk
      refine z_fgt [.ref (117), .int (nI c), .int (nI b), .int (s), .null, .null] ⟨Or.inl rfl, ⟨Or.inl rfl, ⟨Or.inl rfl, ⟨Or.inl rfl, ⟨Or.inr rfl, ⟨Or.inl rfl, trivial⟩⟩⟩⟩⟩⟩ ?_
      exact kk
    · refine z_bipush (nI 24) (by decide) dX8_shifts_30 ?_
      refine z_iload_n rfl rfl dX8_shifts_32 ?_
      refine m_mulN dX8_shifts_33 ?_
      refine z_iload rfl dX8_shifts_34 ?_
      refine m_addN dX8_shifts_36 ?_
      refine z_istore (by decide) rfl dX8_shifts_37 ?_
      refine z_aload_n rfl rfl dX8_shifts_39 ?_
      refine m_getR (130) kf_X8_46 (zl_a rfl rfl) rfl rfl (by decide) dX8_shifts_40 ?_
      refine z_iload rfl dX8_shifts_43 ?_
      refine m_zald ((24 * c) + (((8 * b)) + m)) (zl_a rfl rfl) rfl (by omega) (by decide) dX8_shifts_45 ?_
      refine z_if_eq 100 (by decide) dX8_shifts_46 (fun h3 => ?_) (fun h4 => ?_)
      · refine z_iinc (nI (((8 * b)) + m + 1)) rfl (zinc _) (by decide) rfl dX8_shifts_100 ?_
        refine z_goto 18 (by decide) dX8_shifts_103 ?_
        refine z_fgt [.ref (117), .int (nI c), .int (nI b), .int (s), .int (nI (((8 * b)) + m + 1)), .null] ⟨Or.inl rfl, ⟨Or.inl rfl, ⟨Or.inl rfl, ⟨Or.inl rfl, ⟨Or.inl rfl, ⟨Or.inr rfl, trivial⟩⟩⟩⟩⟩⟩ ?_
        exact ih (8 - (m + 1)) (by omega) (m + 1) (s) (ν) rfl (by omega) (zst hs (by rw [dsf, if_pos h3]))
      · refine z_aload_n rfl rfl dX8_shifts_49 ?_
        refine z_dup rfl dX8_shifts_50 ?_
        refine m_getI kf_X8_162 (zl_a rfl rfl) rfl dX8_shifts_51 ?_
        refine z_aload_n rfl rfl dX8_shifts_54 ?_
        refine m_getR (131) kf_X8_50 (zl_a rfl rfl) rfl rfl (by decide) dX8_shifts_55 ?_
        refine z_iload rfl dX8_shifts_58 ?_
        refine m_iald ((24 * c) + (((8 * b)) + m)) (zl_a rfl rfl) rfl (by omega) (by decide) dX8_shifts_60 ?_
        refine z_aload_n rfl rfl dX8_shifts_61 ?_
        refine m_getR (118) kf_X8_7 (zl_a rfl rfl) rfl rfl (by decide) dX8_shifts_62 ?_
        refine z_iload rfl dX8_shifts_65 ?_
        refine m_iald (((8 * b)) + m) (zl_a rfl rfl) rfl (by omega) (by decide) dX8_shifts_67 ?_
        refine z_isub dX8_shifts_68 ?_
        refine z_iadd dX8_shifts_69 ?_
        refine m_putI kf_X8_162 (zl_a rfl rfl) rfl dX8_shifts_70 ?_
        refine z_aload_n rfl rfl dX8_shifts_73 ?_
        refine z_dup rfl dX8_shifts_74 ?_
        refine m_getI kf_X8_165 (zl_a rfl rfl) rfl dX8_shifts_75 ?_
        refine z_aload_n rfl rfl dX8_shifts_78 ?_
        refine m_getR (132) kf_X8_53 (zl_a rfl rfl) rfl rfl (by decide) dX8_shifts_79 ?_
        refine z_iload rfl dX8_shifts_82 ?_
        refine m_iald ((24 * c) + (((8 * b)) + m)) (zl_a rfl rfl) rfl (by omega) (by decide) dX8_shifts_84 ?_
        refine z_aload_n rfl rfl dX8_shifts_85 ?_
        refine m_getR (119) kf_X8_13 (zl_a rfl rfl) rfl rfl (by decide) dX8_shifts_86 ?_
        refine z_iload rfl dX8_shifts_89 ?_
        refine m_iald (((8 * b)) + m) (zl_a rfl rfl) rfl (by omega) (by decide) dX8_shifts_91 ?_
        refine z_isub dX8_shifts_92 ?_
        refine z_iadd dX8_shifts_93 ?_
        refine m_putI kf_X8_165 (zl_a rfl rfl) rfl dX8_shifts_94 ?_
        refine z_iinc (s + 1) rfl rfl (by decide) rfl dX8_shifts_97 ?_
        refine z_iinc (nI (((8 * b)) + m + 1)) rfl (zinc _) (by decide) rfl dX8_shifts_100 ?_
        refine z_goto 18 (by decide) dX8_shifts_103 ?_
        refine z_fgt [.ref (117), .int (nI c), .int (nI b), .int (s + 1), .int (nI (((8 * b)) + m + 1)), .null] ⟨Or.inl rfl, ⟨Or.inl rfl, ⟨Or.inl rfl, ⟨Or.inl rfl, ⟨Or.inl rfl, ⟨Or.inr rfl, trivial⟩⟩⟩⟩⟩⟩ ?_
        exact ih (8 - (m + 1)) (by omega) (m + 1) (s + 1) (zu (zu ν (117) 32 ((ν (117) (32)) + ((ν (131) ((24 * c) + (((8 * b)) + m))) - (ν (118) (((8 * b)) + m))))) (117) 33 (((zu ν (117) 32 ((ν (117) (32)) + ((ν (131) ((24 * c) + (((8 * b)) + m))) - (ν (118) (((8 * b)) + m))))) (117) (33)) + (((zu ν (117) 32 ((ν (117) (32)) + ((ν (131) ((24 * c) + (((8 * b)) + m))) - (ν (118) (((8 * b)) + m))))) (132) ((24 * c) + (((8 * b)) + m))) - ((zu ν (117) 32 ((ν (117) (32)) + ((ν (131) ((24 * c) + (((8 * b)) + m))) - (ν (118) (((8 * b)) + m))))) (119) (((8 * b)) + m))))) rfl (by omega) (zst hs (by rw [dsf, if_neg h4]; rfl))
set_option maxRecDepth 100000 in
set_option maxHeartbeats 4000000 in
theorem rs_X8_shifts {E : Nat × (Nat → Int32)} {μ : Nat → Nat → Int32} {g : Int64} {c b : Nat} {s : Int32} : zV false E kX8_shifts 145 (.inl none, zm (zu (zu μ 117 32 (dqu s (μ 117 32))) 117 33 (dqu s (μ 117 33))) g) 106 [.ref (117), .int (nI c), .int (nI b), .int (s), .null, .null] [] (zm μ g) 0 0 := by
  refine z_aload_n rfl rfl dX8_shifts_106 ?_
  refine z_iload_n rfl rfl dX8_shifts_107 ?_
  refine z_if_ne 115 (by decide) dX8_shifts_108 (fun h1 => ?_) (fun h2 => ?_)
  · refine z_aload_n rfl rfl dX8_shifts_115 ?_
    refine m_getI kf_X8_162 (zl_a rfl rfl) rfl dX8_shifts_116 ?_
    refine z_iload_n rfl rfl dX8_shifts_119 ?_
    refine z_idiv (by assumption) dX8_shifts_120 ?_
    refine m_putI kf_X8_162 (zl_a rfl rfl) rfl dX8_shifts_121 ?_
    refine z_aload_n rfl rfl dX8_shifts_124 ?_
    refine z_iload_n rfl rfl dX8_shifts_125 ?_
    refine z_if_ne 133 (by decide) dX8_shifts_126 (fun h3 => ?_) (fun h4 => ?_)
    · refine z_aload_n rfl rfl dX8_shifts_133 ?_
      refine m_getI kf_X8_165 (zl_a rfl rfl) rfl dX8_shifts_134 ?_
      refine z_iload_n rfl rfl dX8_shifts_137 ?_
      refine z_idiv (by assumption) dX8_shifts_138 ?_
      refine m_putI kf_X8_165 (zl_a rfl rfl) rfl dX8_shifts_139 ?_
      exact z_vret (by unfold dqu; first | contradiction | (rw [if_pos (by assumption : s = 0), if_pos (by assumption : s = 0)]) | (rw [if_neg (by assumption : ¬ s = 0), if_neg (by assumption : ¬ s = 0)]; rfl)) rfl (by decide) (by decide) dX8_shifts_142
    · refine z_iconst (nI 0) (by decide) dX8_shifts_129 ?_
      refine z_goto 139 (by decide) dX8_shifts_130 ?_
      refine m_putI kf_X8_165 (zl_a rfl rfl) rfl dX8_shifts_139 ?_
      exact z_vret (by unfold dqu; first | contradiction | (rw [if_pos (by assumption : s = 0), if_pos (by assumption : s = 0)]) | (rw [if_neg (by assumption : ¬ s = 0), if_neg (by assumption : ¬ s = 0)]; rfl)) rfl (by decide) (by decide) dX8_shifts_142
  · refine z_iconst (nI 0) (by decide) dX8_shifts_111 ?_
    refine z_goto 121 (by decide) dX8_shifts_112 ?_
    refine m_putI kf_X8_162 (zl_a rfl rfl) rfl dX8_shifts_121 ?_
    refine z_aload_n rfl rfl dX8_shifts_124 ?_
    refine z_iload_n rfl rfl dX8_shifts_125 ?_
    refine z_if_ne 133 (by decide) dX8_shifts_126 (fun h5 => ?_) (fun h6 => ?_)
    · refine z_aload_n rfl rfl dX8_shifts_133 ?_
      refine m_getI kf_X8_165 (zl_a rfl rfl) rfl dX8_shifts_134 ?_
      refine z_iload_n rfl rfl dX8_shifts_137 ?_
      refine z_idiv (by assumption) dX8_shifts_138 ?_
      refine m_putI kf_X8_165 (zl_a rfl rfl) rfl dX8_shifts_139 ?_
      exact z_vret (by unfold dqu; first | contradiction | (rw [if_pos (by assumption : s = 0), if_pos (by assumption : s = 0)]) | (rw [if_neg (by assumption : ¬ s = 0), if_neg (by assumption : ¬ s = 0)]; rfl)) rfl (by decide) (by decide) dX8_shifts_142
    · refine z_iconst (nI 0) (by decide) dX8_shifts_129 ?_
      refine z_goto 139 (by decide) dX8_shifts_130 ?_
      refine m_putI kf_X8_165 (zl_a rfl rfl) rfl dX8_shifts_139 ?_
      exact z_vret (by unfold dqu; first | contradiction | (rw [if_pos (by assumption : s = 0), if_pos (by assumption : s = 0)]) | (rw [if_neg (by assumption : ¬ s = 0), if_neg (by assumption : ¬ s = 0)]; rfl)) rfl (by decide) (by decide) dX8_shifts_142
set_option maxRecDepth 100000 in
set_option maxHeartbeats 4000000 in
theorem ct_X8_shifts {E : Nat × (Nat → Int32)} {μ : Nat → Nat → Int32} {g : Int64} {c b : Nat} (hc : c < 12) (hb : b < 3) : zCt E kX8_shifts [.ref (117), .int (nI c), .int (nI b)] (zm μ g) (.inl none, zm (dshifts c b μ) g) := by
  refine zCt_of ko_X8_shifts (Nat.le_of_ble_eq_true rfl) (zas_r (zas_i (zas_i zas_0))) ⟨Nat.le_refl _, fun h => absurd h (Nat.lt_irrefl _)⟩ (Nat.le_of_ble_eq_true rfl) ?_
  show zV false E kX8_shifts 145 _ 0 [.ref (117), .int (nI c), .int (nI b), .null, .null, .null] [] (zm μ g) 0 0
  refine z_iconst (nI 0) (by decide) dX8_shifts_0 ?_
  refine z_istore_n rfl (by decide) rfl dX8_shifts_1 ?_
  refine z_aload_n rfl rfl dX8_shifts_2 ?_
  refine z_iconst (nI 0) (by decide) dX8_shifts_3 ?_
  refine m_putI kf_X8_162 (zl_a rfl rfl) rfl dX8_shifts_4 ?_
  refine z_aload_n rfl rfl dX8_shifts_7 ?_
  refine z_iconst (nI 0) (by decide) dX8_shifts_8 ?_
  refine m_putI kf_X8_165 (zl_a rfl rfl) rfl dX8_shifts_9 ?_
  refine z_bipush (nI 8) (by decide) dX8_shifts_12 ?_
  refine z_iload_n rfl rfl dX8_shifts_14 ?_
  refine m_mulN dX8_shifts_15 ?_
  refine z_istore (by decide) rfl dX8_shifts_16 ?_
  unfold dshifts dshift0
  exact lp_X8_shifts (μ := (zu (zu μ 117 32 (nI 0)) 117 33 (nI 0))) (c := c) (b := b) (by omega) (by omega) (rs_X8_shifts (μ := (zit (dsf c) (8 * b) 8 (nI 0, (zu (zu μ 117 32 (nI 0)) 117 33 (nI 0)))).2) (s := (zit (dsf c) (8 * b) 8 (nI 0, (zu (zu μ 117 32 (nI 0)) 117 33 (nI 0)))).1) (c := c) (b := b)) _ 0 (nI 0) (zu (zu μ 117 32 (nI 0)) 117 33 (nI 0)) rfl (Nat.zero_le _) rfl
set_option maxRecDepth 100000 in
set_option maxHeartbeats 4000000 in
theorem ctx_X8_fit {E : Nat × (Nat → Int32)} {μ : Nat → Nat → Int32} {g : Int64} {nc : Nat} (hnc : μ 117 13 = nI nc) (hn12 : nc ≤ 12) {p q w : Int32} (hbad : ¬ (zrg nc p ∧ zrg 3 q)) : zCt E kX8_fit [.ref (117), .int (p), .int (q), .int (w)] (zm μ g) (.inl (some (.int (nI 0))), zm ((zu μ 117 0 (nI 1))) g) := by
  refine zCt_of ko_X8_fit (Nat.le_of_ble_eq_true rfl) (zas_r (zas_i (zas_i (zas_i zas_0)))) ⟨Nat.le_refl _, fun h => absurd h (Nat.lt_irrefl _)⟩ (Nat.le_of_ble_eq_true rfl) ?_
  show zV false E kX8_fit 145 _ 0 [.ref (117), .int (p), .int (q), .int (w), .null, .null, .null] [] (zm μ g) 0 0
  refine z_aload_n rfl rfl dX8_fit_0 ?_
  refine z_aload_n rfl rfl dX8_fit_1 ?_
  refine z_iload_n rfl rfl dX8_fit_2 ?_
  refine z_callV (as := [.int (p)]) (ctg_X8_isChart hnc hn12 (p)) ko_X8_isChart kl_X8_136 rfl (zl_a rfl rfl) rfl rfl ⟨by decide, by decide, by decide, by decide⟩ (Nat.le_of_ble_eq_true rfl) rfl dX8_fit_3 ?_
  refine z_if_eq 16 (by decide) dX8_fit_6 (z_br zb_0 (fun h1 => ?_)) (z_br zb_n (fun h2 => ?_))
  · refine z_iconst (nI 1) (by decide) dX8_fit_16 ?_
    refine z_goto 34 (by decide) dX8_fit_17 ?_
    refine m_putI kf_X8_92 (zl_a rfl rfl) rfl dX8_fit_34 ?_
    refine z_aload_n rfl rfl dX8_fit_37 ?_
    refine m_getI kf_X8_92 (zl_a rfl rfl) rfl dX8_fit_38 ?_
    refine m_eqv (w := nI 1) (rfl) ?_
    refine z_if_le 46 (by decide) dX8_fit_41 (fun h => absurd h (by decide)) (fun _ => ?_)
    refine z_iconst (nI 0) (by decide) dX8_fit_44 ?_
    exact z_iret (rfl) rfl (znarI _) (by decide) (by decide) dX8_fit_45
  · refine z_iload_n rfl rfl dX8_fit_9 ?_
    refine z_callS (as := [.int (q)]) (ctg_X8_isBasin (q)) ko_X8_isBasin kl_X8_152 rfl rfl ⟨by decide, by decide, by decide, by decide⟩ (Nat.le_of_ble_eq_true rfl) rfl dX8_fit_10 ?_
    refine z_if_ne 20 (by decide) dX8_fit_13 (z_br zb_n (fun h3 => ?_)) (z_br zb_0 (fun h4 => ?_))
    · exact absurd (by repeat' (first | assumption | apply And.intro)) hbad
    · refine z_iconst (nI 1) (by decide) dX8_fit_16 ?_
      refine z_goto 34 (by decide) dX8_fit_17 ?_
      refine m_putI kf_X8_92 (zl_a rfl rfl) rfl dX8_fit_34 ?_
      refine z_aload_n rfl rfl dX8_fit_37 ?_
      refine m_getI kf_X8_92 (zl_a rfl rfl) rfl dX8_fit_38 ?_
      refine m_eqv (w := nI 1) (rfl) ?_
      refine z_if_le 46 (by decide) dX8_fit_41 (fun h => absurd h (by decide)) (fun _ => ?_)
      refine z_iconst (nI 0) (by decide) dX8_fit_44 ?_
      exact z_iret (rfl) rfl (znarI _) (by decide) (by decide) dX8_fit_45
set_option maxRecDepth 100000 in
set_option maxHeartbeats 4000000 in
theorem cta_X8_fit {E : Nat × (Nat → Int32)} {μ : Nat → Nat → Int32} {g : Int64} {nc : Nat} (hnc : μ 117 13 = nI nc) (hn12 : nc ≤ 12) {c b : Nat} (hc : c < nc) (hb : b < 3) {w : Int32} (hw : ¬ zrg 3 w)  : zCt E kX8_fit [.ref (117), .int (nI c), .int (nI b), .int (w)] (zm μ g) ((.inl (some (.int (nI 0))), zm (zu μ 117 0 (nI 2)) g) : zO) := by
  refine zCt_of ko_X8_fit (Nat.le_of_ble_eq_true rfl) (zas_r (zas_i (zas_i (zas_i zas_0)))) ⟨Nat.le_refl _, fun h => absurd h (Nat.lt_irrefl _)⟩ (Nat.le_of_ble_eq_true rfl) ?_
  show zV false E kX8_fit 145 _ 0 [.ref (117), .int (nI c), .int (nI b), .int (w), .null, .null, .null] [] (zm μ g) 0 0
  refine z_aload_n rfl rfl dX8_fit_0 ?_
  refine z_aload_n rfl rfl dX8_fit_1 ?_
  refine z_iload_n rfl rfl dX8_fit_2 ?_
  refine z_callV (as := [.int (nI c)]) (ct_X8_isChart hnc hn12 (j := c) (by omega)) ko_X8_isChart kl_X8_136 rfl (zl_a rfl rfl) rfl rfl ⟨by decide, by decide, by decide, by decide⟩ (Nat.le_of_ble_eq_true rfl) rfl dX8_fit_3 ?_
  refine z_if_eq 16 (by decide) dX8_fit_6 (fun h => absurd h (by decide)) (fun _ => ?_)
  refine z_iload_n rfl rfl dX8_fit_9 ?_
  refine z_callS (as := [.int (nI b)]) (ct_X8_isBasin (j := b) (by omega)) ko_X8_isBasin kl_X8_152 rfl rfl ⟨by decide, by decide, by decide, by decide⟩ (Nat.le_of_ble_eq_true rfl) rfl dX8_fit_10 ?_
  refine z_if_ne 20 (by decide) dX8_fit_13 (fun _ => ?_) (fun h => absurd h (by decide))
  refine z_iload_n rfl rfl dX8_fit_20 ?_
  refine z_iconst (nI 0) (by decide) dX8_fit_21 ?_
  refine z_iconst (nI 2) (by decide) dX8_fit_22 ?_
  refine z_callS (as := [.int (w), .int (nI 0), .int (nI 2)]) (ct_X8_isInZ (w) 2 (by decide)) ko_X8_isIn kl_X8_96 rfl rfl ⟨by decide, by decide, by decide, by decide⟩ (Nat.le_of_ble_eq_true rfl) rfl dX8_fit_23 ?_
  refine z_if_ne 33 (by decide) dX8_fit_26 (z_br zb_n (fun h1 => ?_)) (z_br zb_0 (fun h2 => ?_))
  · exact absurd (by assumption) hw
  · refine z_iconst (nI 2) (by decide) dX8_fit_29 ?_
    refine z_goto 34 (by decide) dX8_fit_30 ?_
    refine m_putI kf_X8_92 (zl_a rfl rfl) rfl dX8_fit_34 ?_
    refine z_aload_n rfl rfl dX8_fit_37 ?_
    refine m_getI kf_X8_92 (zl_a rfl rfl) rfl dX8_fit_38 ?_
    refine m_eqv (w := nI 2) (rfl) ?_
    refine z_if_le 46 (by decide) dX8_fit_41 (fun h => absurd h (by decide)) (fun _ => ?_)
    refine z_iconst (nI 0) (by decide) dX8_fit_44 ?_
    exact z_iret (rfl) rfl (znarI _) (by decide) (by decide) dX8_fit_45
set_option maxRecDepth 100000 in
set_option maxHeartbeats 4000000 in
theorem lp_X8_fit {E : Nat × (Nat → Int32)} {g : Int64} {μ : zMu} {c b w : Nat} (hc : c < 12) (hb : b < 3) (hw : w < 3) {O : zO} (kk : zV false E kX8_fit 145 O 154 [.ref (117), .int (nI c), .int (nI b), .int (nI w), .int (zit (dfi μ c) (8 * b) 8 (nI 0)), .null, .null] [] (zm μ g) 0 0) : ∀ (n : Nat) (m : Nat) (s : Int32), 8 - m = n → m ≤ 8 → s = zit (dfi μ c) ((8 * b)) m (nI 0) → zV false E kX8_fit 145 O 61 [.ref (117), .int (nI c), .int (nI b), .int (nI w), .int (s), .int (nI (((8 * b)) + m)), .null] [] (zm μ g) 0 0 := by
  intro n
  induction n using Nat.strongRecOn with
  | ind n ih =>
    intro m s hm hle hs 
    refine z_iload rfl dX8_fit_61 ?_
    refine z_bipush (nI 8) (by decide) dX8_fit_63 ?_
    refine z_iload_n rfl rfl dX8_fit_65 ?_
    refine m_mulN dX8_fit_66 ?_
    refine z_bipush (nI 8) (by decide) dX8_fit_67 ?_
    refine m_addN dX8_fit_69 ?_
    refine z_icmp_ge 154 (by decide) dX8_fit_70 (z_br (zcn (n := (8 * b) + 8) (by omega) (((8 * b)) + m) (by omega)).2.2 (fun h1 => ?_)) (z_brn (zcn (n := (8 * b) + 8) (by omega) (((8 * b)) + m) (by omega)).2.2 (fun h2 => ?_))
    · have hmL : m = 8 := by omega
      have hz : zit (dfi μ c) ((8 * b)) 8 (nI 0) = s := by rw [hs, hmL]
      rw [hz] at kk
      refine z_fgt [.ref (117), .int (nI c), .int (nI b), .int (nI w), .int (s), .null, .null] ⟨Or.inl rfl, ⟨Or.inl rfl, ⟨Or.inl rfl, ⟨Or.inl rfl, ⟨Or.inl rfl, ⟨Or.inr rfl, ⟨Or.inl rfl, trivial⟩⟩⟩⟩⟩⟩⟩ ?_
      exact kk
    · refine z_bipush (nI 24) (by decide) dX8_fit_73 ?_
      refine z_iload_n rfl rfl dX8_fit_75 ?_
      refine m_mulN dX8_fit_76 ?_
      refine z_iload rfl dX8_fit_77 ?_
      refine m_addN dX8_fit_79 ?_
      refine z_istore (by decide) rfl dX8_fit_80 ?_
      refine z_iload rfl dX8_fit_82 ?_
      refine z_aload_n rfl rfl dX8_fit_84 ?_
      refine m_getR (130) kf_X8_46 (zl_a rfl rfl) rfl rfl (by decide) dX8_fit_85 ?_
      refine z_iload rfl dX8_fit_88 ?_
      refine m_zald ((24 * c) + (((8 * b)) + m)) (zl_a rfl rfl) rfl (by omega) (by decide) dX8_fit_90 ?_
      refine z_if_eq 144 (by decide) dX8_fit_91 (fun h3 => ?_) (fun h4 => ?_)
      · refine z_iconst (nI 0) (by decide) dX8_fit_144 ?_
        refine z_iadd dX8_fit_145 ?_
        refine z_istore (by decide) rfl dX8_fit_146 ?_
        refine z_iinc (nI (((8 * b)) + m + 1)) rfl (zinc _) (by decide) rfl dX8_fit_148 ?_
        refine z_goto 61 (by decide) dX8_fit_151 ?_
        refine z_fgt [.ref (117), .int (nI c), .int (nI b), .int (nI w), .int (s + (nI 0)), .int (nI (((8 * b)) + m + 1)), .null] ⟨Or.inl rfl, ⟨Or.inl rfl, ⟨Or.inl rfl, ⟨Or.inl rfl, ⟨Or.inl rfl, ⟨Or.inl rfl, ⟨Or.inr rfl, trivial⟩⟩⟩⟩⟩⟩⟩ ?_
        exact ih (8 - (m + 1)) (by omega) (m + 1) (s + (nI 0)) rfl (by omega) (zst hs (by rw [dfi, if_pos h3]))
      · refine z_aload_n rfl rfl dX8_fit_94 ?_
        refine m_getR (131) kf_X8_50 (zl_a rfl rfl) rfl rfl (by decide) dX8_fit_95 ?_
        refine z_iload rfl dX8_fit_98 ?_
        refine m_iald ((24 * c) + (((8 * b)) + m)) (zl_a rfl rfl) rfl (by omega) (by decide) dX8_fit_100 ?_
        refine z_aload_n rfl rfl dX8_fit_101 ?_
        refine m_getR (118) kf_X8_7 (zl_a rfl rfl) rfl rfl (by decide) dX8_fit_102 ?_
        refine z_iload rfl dX8_fit_105 ?_
        refine m_iald (((8 * b)) + m) (zl_a rfl rfl) rfl (by omega) (by decide) dX8_fit_107 ?_
        refine z_isub dX8_fit_108 ?_
        refine z_aload_n rfl rfl dX8_fit_109 ?_
        refine m_getI kf_X8_162 (zl_a rfl rfl) rfl dX8_fit_110 ?_
        refine z_isub dX8_fit_113 ?_
        refine z_callS (as := [.int (((μ (131) ((24 * c) + (((8 * b)) + m))) - (μ (118) (((8 * b)) + m))) - (μ (117) (32)))]) (ct_X8_size (((μ (131) ((24 * c) + (((8 * b)) + m))) - (μ (118) (((8 * b)) + m))) - (μ (117) (32)))) ko_X8_size kl_X8_172 rfl rfl ⟨by decide, by decide, by decide, by decide⟩ (Nat.le_of_ble_eq_true rfl) rfl dX8_fit_114 ?_
        refine z_aload_n rfl rfl dX8_fit_117 ?_
        refine m_getR (132) kf_X8_53 (zl_a rfl rfl) rfl rfl (by decide) dX8_fit_118 ?_
        refine z_iload rfl dX8_fit_121 ?_
        refine m_iald ((24 * c) + (((8 * b)) + m)) (zl_a rfl rfl) rfl (by omega) (by decide) dX8_fit_123 ?_
        refine z_aload_n rfl rfl dX8_fit_124 ?_
        refine m_getR (119) kf_X8_13 (zl_a rfl rfl) rfl rfl (by decide) dX8_fit_125 ?_
        refine z_iload rfl dX8_fit_128 ?_
        refine m_iald (((8 * b)) + m) (zl_a rfl rfl) rfl (by omega) (by decide) dX8_fit_130 ?_
        refine z_isub dX8_fit_131 ?_
        refine z_aload_n rfl rfl dX8_fit_132 ?_
        refine m_getI kf_X8_165 (zl_a rfl rfl) rfl dX8_fit_133 ?_
        refine z_isub dX8_fit_136 ?_
        refine z_callS (as := [.int (((μ (132) ((24 * c) + (((8 * b)) + m))) - (μ (119) (((8 * b)) + m))) - (μ (117) (33)))]) (ct_X8_size (((μ (132) ((24 * c) + (((8 * b)) + m))) - (μ (119) (((8 * b)) + m))) - (μ (117) (33)))) ko_X8_size kl_X8_172 rfl rfl ⟨by decide, by decide, by decide, by decide⟩ (Nat.le_of_ble_eq_true rfl) rfl dX8_fit_137 ?_
        refine z_iadd dX8_fit_140 ?_
        refine z_goto 145 (by decide) dX8_fit_141 ?_
        refine z_iadd dX8_fit_145 ?_
        refine z_istore (by decide) rfl dX8_fit_146 ?_
        refine z_iinc (nI (((8 * b)) + m + 1)) rfl (zinc _) (by decide) rfl dX8_fit_148 ?_
        refine z_goto 61 (by decide) dX8_fit_151 ?_
        refine z_fgt [.ref (117), .int (nI c), .int (nI b), .int (nI w), .int (s + ((zsz (((μ (131) ((24 * c) + (((8 * b)) + m))) - (μ (118) (((8 * b)) + m))) - (μ (117) (32)))) + (zsz (((μ (132) ((24 * c) + (((8 * b)) + m))) - (μ (119) (((8 * b)) + m))) - (μ (117) (33)))))), .int (nI (((8 * b)) + m + 1)), .null] ⟨Or.inl rfl, ⟨Or.inl rfl, ⟨Or.inl rfl, ⟨Or.inl rfl, ⟨Or.inl rfl, ⟨Or.inl rfl, ⟨Or.inr rfl, trivial⟩⟩⟩⟩⟩⟩⟩ ?_
        exact ih (8 - (m + 1)) (by omega) (m + 1) (s + ((zsz (((μ (131) ((24 * c) + (((8 * b)) + m))) - (μ (118) (((8 * b)) + m))) - (μ (117) (32)))) + (zsz (((μ (132) ((24 * c) + (((8 * b)) + m))) - (μ (119) (((8 * b)) + m))) - (μ (117) (33)))))) rfl (by omega) (zst hs (by rw [dfi, if_neg h4]))
set_option maxRecDepth 100000 in
set_option maxHeartbeats 4000000 in
theorem ct_X8_fit {E : Nat × (Nat → Int32)} {μ : Nat → Nat → Int32} {g : Int64} {nc : Nat} (hnc : μ 117 13 = nI nc) (hn12 : nc ≤ 12) {c b w : Nat} (hc : c < nc) (hb : b < 3) (hw : w < 3)  : zCt E kX8_fit [.ref (117), .int (nI c), .int (nI b), .int (nI w)] (zm μ g) ((.inl (some (.int (zfi8 (dshifts c b (zu μ 117 0 (nI 0))) c b w))), zm (dshifts c b (zu μ 117 0 (nI 0))) g) : zO) := by
  refine zCt_of ko_X8_fit (Nat.le_of_ble_eq_true rfl) (zas_r (zas_i (zas_i (zas_i zas_0)))) ⟨Nat.le_refl _, fun h => absurd h (Nat.lt_irrefl _)⟩ (Nat.le_of_ble_eq_true rfl) ?_
  show zV false E kX8_fit 145 _ 0 [.ref (117), .int (nI c), .int (nI b), .int (nI w), .null, .null, .null] [] (zm μ g) 0 0
  refine z_aload_n rfl rfl dX8_fit_0 ?_
  refine z_aload_n rfl rfl dX8_fit_1 ?_
  refine z_iload_n rfl rfl dX8_fit_2 ?_
  refine z_callV (as := [.int (nI c)]) (ct_X8_isChart hnc hn12 (j := c) (by omega)) ko_X8_isChart kl_X8_136 rfl (zl_a rfl rfl) rfl rfl ⟨by decide, by decide, by decide, by decide⟩ (Nat.le_of_ble_eq_true rfl) rfl dX8_fit_3 ?_
  refine z_if_eq 16 (by decide) dX8_fit_6 (fun h => absurd h (by decide)) (fun _ => ?_)
  refine z_iload_n rfl rfl dX8_fit_9 ?_
  refine z_callS (as := [.int (nI b)]) (ct_X8_isBasin (j := b) (by omega)) ko_X8_isBasin kl_X8_152 rfl rfl ⟨by decide, by decide, by decide, by decide⟩ (Nat.le_of_ble_eq_true rfl) rfl dX8_fit_10 ?_
  refine z_if_ne 20 (by decide) dX8_fit_13 (fun _ => ?_) (fun h => absurd h (by decide))
  refine z_iload_n rfl rfl dX8_fit_20 ?_
  refine z_iconst (nI 0) (by decide) dX8_fit_21 ?_
  refine z_iconst (nI 2) (by decide) dX8_fit_22 ?_
  refine z_callS (as := [.int (nI w), .int (nI 0), .int (nI 2)]) (ct_X8_isInN (l := 0) (j := w) (h := 2) (by omega) (by omega) (by omega)) ko_X8_isIn kl_X8_96 rfl rfl ⟨by decide, by decide, by decide, by decide⟩ (Nat.le_of_ble_eq_true rfl) rfl dX8_fit_23 ?_
  refine z_if_ne 33 (by decide) dX8_fit_26 (fun _ => ?_) (fun h => absurd h (by decide))
  refine z_iconst (nI 0) (by decide) dX8_fit_33 ?_
  refine m_putI kf_X8_92 (zl_a rfl rfl) rfl dX8_fit_34 ?_
  refine z_aload_n rfl rfl dX8_fit_37 ?_
  refine m_getI kf_X8_92 (zl_a rfl rfl) rfl dX8_fit_38 ?_
  refine m_eqv (w := nI 0) (rfl) ?_
  refine z_if_le 46 (by decide) dX8_fit_41 (fun _ => ?_) (fun h => absurd h (by decide))
  refine z_aload_n rfl rfl dX8_fit_46 ?_
  refine z_iload_n rfl rfl dX8_fit_47 ?_
  refine z_iload_n rfl rfl dX8_fit_48 ?_
  refine z_callV (as := [.int (nI c), .int (nI b)]) (ct_X8_shifts (c := c) (b := b) (by omega) (by omega)) ko_X8_shifts kl_X8_168 rfl (zl_a rfl rfl) rfl rfl ⟨by decide, by decide, by decide, by decide⟩ (Nat.le_of_ble_eq_true rfl) rfl dX8_fit_49 ?_
  refine z_iconst (nI 0) (by decide) dX8_fit_52 ?_
  refine z_istore (by decide) rfl dX8_fit_53 ?_
  refine z_bipush (nI 8) (by decide) dX8_fit_55 ?_
  refine z_iload_n rfl rfl dX8_fit_57 ?_
  refine m_mulN dX8_fit_58 ?_
  refine z_istore (by decide) rfl dX8_fit_59 ?_
  refine lp_X8_fit (μ := dshifts c b (zu μ 117 0 (nI 0))) (c := c) (b := b) (w := w) (by omega) (by omega) (by omega) ?_ _ 0 _ rfl (Nat.zero_le _) rfl
  have hws : w = 0 ∨ w = 1 ∨ w = 2 := by omega
  rcases hws with rfl | rfl | rfl
  · refine z_iload_n rfl rfl dX8_fit_154 ?_
    refine z_if_ne 165 (by decide) dX8_fit_155 (fun h => absurd h (by decide)) (fun _ => ?_)
    refine z_aload_n rfl rfl dX8_fit_158 ?_
    refine m_getI kf_X8_162 (zl_a rfl rfl) rfl dX8_fit_159 ?_
    refine z_goto 179 (by decide) dX8_fit_162 ?_
    exact z_iret (rfl) rfl (znarI _) (by decide) (by decide) dX8_fit_179
  · refine z_iload_n rfl rfl dX8_fit_154 ?_
    refine z_if_ne 165 (by decide) dX8_fit_155 (fun _ => ?_) (fun h => absurd h (by decide))
    refine z_iload_n rfl rfl dX8_fit_165 ?_
    refine z_iconst (nI 1) (by decide) dX8_fit_166 ?_
    refine z_icmp_ne 177 (by decide) dX8_fit_167 (fun h => absurd h (by decide)) (fun _ => ?_)
    refine z_aload_n rfl rfl dX8_fit_170 ?_
    refine m_getI kf_X8_165 (zl_a rfl rfl) rfl dX8_fit_171 ?_
    refine z_goto 179 (by decide) dX8_fit_174 ?_
    exact z_iret (rfl) rfl (znarI _) (by decide) (by decide) dX8_fit_179
  · refine z_iload_n rfl rfl dX8_fit_154 ?_
    refine z_if_ne 165 (by decide) dX8_fit_155 (fun _ => ?_) (fun h => absurd h (by decide))
    refine z_iload_n rfl rfl dX8_fit_165 ?_
    refine z_iconst (nI 1) (by decide) dX8_fit_166 ?_
    refine z_icmp_ne 177 (by decide) dX8_fit_167 (fun _ => ?_) (fun h => absurd h (by decide))
    refine z_iload rfl dX8_fit_177 ?_
    exact z_iret (rfl) rfl (znarI _) (by decide) (by decide) dX8_fit_179
set_option maxRecDepth 100000 in
set_option maxHeartbeats 4000000 in
theorem lp1_X8_sharedBy {E : Nat × (Nat → Int32)} {g : Int64} {μ : zMu} {c d b : Nat} (hc : c < 12) (hd : d < 12) (hb : b < 3) {O : zO} (kk : zV false E kX8_sharedBy 145 O 199 [.ref (117), .int (nI c), .int (nI d), .int (nI b), .int (zit (dsb μ c d) (8 * b) 8 (nI 0)), .null, .null, .null, .null] [] (zm μ g) 0 0) : ∀ (n : Nat) (m : Nat) (s : Int32), 8 - m = n → m ≤ 8 → s = zit (dsb μ c d) ((8 * b)) m (nI 0) → zV false E kX8_sharedBy 145 O 9 [.ref (117), .int (nI c), .int (nI d), .int (nI b), .int (s), .int (nI (((8 * b)) + m)), .null, .null, .null] [] (zm μ g) 0 0 := by
  intro n
  induction n using Nat.strongRecOn with
  | ind n ih =>
    intro m s hm hle hs 
    refine z_iload rfl dX8_sharedBy_9 ?_
    refine z_bipush (nI 8) (by decide) dX8_sharedBy_11 ?_
    refine z_iload_n rfl rfl dX8_sharedBy_13 ?_
    refine m_mulN dX8_sharedBy_14 ?_
    refine z_bipush (nI 8) (by decide) dX8_sharedBy_15 ?_
    refine m_addN dX8_sharedBy_17 ?_
    refine z_icmp_ge 199 (by decide) dX8_sharedBy_18 (z_br (zcn (n := (8 * b) + 8) (by omega) (((8 * b)) + m) (by omega)).2.2 (fun h1 => ?_)) (z_brn (zcn (n := (8 * b) + 8) (by omega) (((8 * b)) + m) (by omega)).2.2 (fun h2 => ?_))
    · have hmL : m = 8 := by omega
      have hz : zit (dsb μ c d) ((8 * b)) 8 (nI 0) = s := by rw [hs, hmL]
      rw [hz] at kk
      refine z_fgt [.ref (117), .int (nI c), .int (nI d), .int (nI b), .int (s), .null, .null, .null, .null] ⟨Or.inl rfl, ⟨Or.inl rfl, ⟨Or.inl rfl, ⟨Or.inl rfl, ⟨Or.inl rfl, ⟨Or.inr rfl, ⟨Or.inl rfl, ⟨Or.inl rfl, ⟨Or.inl rfl, trivial⟩⟩⟩⟩⟩⟩⟩⟩⟩ ?_
      exact kk
    · refine z_bipush (nI 24) (by decide) dX8_sharedBy_21 ?_
      refine z_iload_n rfl rfl dX8_sharedBy_23 ?_
      refine m_mulN dX8_sharedBy_24 ?_
      refine z_iload rfl dX8_sharedBy_25 ?_
      refine m_addN dX8_sharedBy_27 ?_
      refine z_istore (by decide) rfl dX8_sharedBy_28 ?_
      refine z_bipush (nI 24) (by decide) dX8_sharedBy_30 ?_
      refine z_iload_n rfl rfl dX8_sharedBy_32 ?_
      refine m_mulN dX8_sharedBy_33 ?_
      refine z_iload rfl dX8_sharedBy_34 ?_
      refine m_addN dX8_sharedBy_36 ?_
      refine z_istore (by decide) rfl dX8_sharedBy_37 ?_
      refine z_aload_n rfl rfl dX8_sharedBy_39 ?_
      refine m_getR (130) kf_X8_46 (zl_a rfl rfl) rfl rfl (by decide) dX8_sharedBy_40 ?_
      refine z_iload rfl dX8_sharedBy_43 ?_
      refine m_zald ((24 * c) + (((8 * b)) + m)) (zl_a rfl rfl) rfl (by omega) (by decide) dX8_sharedBy_45 ?_
      refine z_if_eq 97 (by decide) dX8_sharedBy_46 (fun h3 => ?_) (fun h4 => ?_)
      · refine z_iconst (nI 0) (by decide) dX8_sharedBy_97 ?_
        refine z_istore (by decide) rfl dX8_sharedBy_98 ?_
        refine z_iload rfl dX8_sharedBy_100 ?_
        refine z_iload rfl dX8_sharedBy_102 ?_
        refine z_if_eq 145 (by decide) dX8_sharedBy_104 (fun _ => ?_) (fun h => absurd h (by decide))
        refine z_iconst (nI 0) (by decide) dX8_sharedBy_145 ?_
        refine z_iadd dX8_sharedBy_146 ?_
        refine z_istore (by decide) rfl dX8_sharedBy_147 ?_
        refine z_iload rfl dX8_sharedBy_149 ?_
        refine z_aload_n rfl rfl dX8_sharedBy_151 ?_
        refine m_getR (133) kf_X8_56 (zl_a rfl rfl) rfl rfl (by decide) dX8_sharedBy_152 ?_
        refine z_iload rfl dX8_sharedBy_155 ?_
        refine m_iald ((24 * c) + (((8 * b)) + m)) (zl_a rfl rfl) rfl (by omega) (by decide) dX8_sharedBy_157 ?_
        refine z_aload_n rfl rfl dX8_sharedBy_158 ?_
        refine m_getR (133) kf_X8_56 (zl_a rfl rfl) rfl rfl (by decide) dX8_sharedBy_159 ?_
        refine z_iload rfl dX8_sharedBy_162 ?_
        refine m_iald ((24 * d) + (((8 * b)) + m)) (zl_a rfl rfl) rfl (by omega) (by decide) dX8_sharedBy_164 ?_
        refine z_icmp_ne 189 (by decide) dX8_sharedBy_165 (fun h5 => ?_) (fun h6 => ?_)
        · refine z_iconst (nI 0) (by decide) dX8_sharedBy_189 ?_
          refine z_iadd dX8_sharedBy_190 ?_
          refine z_istore (by decide) rfl dX8_sharedBy_191 ?_
          refine z_iinc (nI (((8 * b)) + m + 1)) rfl (zinc _) (by decide) rfl dX8_sharedBy_193 ?_
          refine z_goto 9 (by decide) dX8_sharedBy_196 ?_
          refine z_fgt [.ref (117), .int (nI c), .int (nI d), .int (nI b), .int ((s + (nI 0)) + (nI 0)), .int (nI (((8 * b)) + m + 1)), .null, .null, .null] ⟨Or.inl rfl, ⟨Or.inl rfl, ⟨Or.inl rfl, ⟨Or.inl rfl, ⟨Or.inl rfl, ⟨Or.inl rfl, ⟨Or.inr rfl, ⟨Or.inr rfl, ⟨Or.inr rfl, trivial⟩⟩⟩⟩⟩⟩⟩⟩⟩ ?_
          exact ih (8 - (m + 1)) (by omega) (m + 1) ((s + (nI 0)) + (nI 0)) rfl (by omega) (zst hs (by rw [dsb, if_neg (show ¬ dsA μ c d ((8 * b) + m) from (fun q => by first | exact absurd q.1 (by assumption) | exact q.1 (by assumption) | exact q.2.1 (by assumption) | exact absurd q.2.2.1 (by assumption) | exact absurd q.2.2.2.1 (by assumption) | exact q.2.2.2.2.elim (fun z => z (by assumption)) (fun z => z (by assumption)))), if_neg (show ¬ dsB μ c d ((8 * b) + m) from (fun q => by first | exact absurd q.1 (by assumption) | exact q.2 (by assumption)))]))
        · refine z_aload_n rfl rfl dX8_sharedBy_168 ?_
          refine m_getR (133) kf_X8_56 (zl_a rfl rfl) rfl rfl (by decide) dX8_sharedBy_169 ?_
          refine z_iload rfl dX8_sharedBy_172 ?_
          refine m_iald ((24 * c) + (((8 * b)) + m)) (zl_a rfl rfl) rfl (by omega) (by decide) dX8_sharedBy_174 ?_
          refine z_aload_n rfl rfl dX8_sharedBy_175 ?_
          refine m_getR (120) kf_X8_16 (zl_a rfl rfl) rfl rfl (by decide) dX8_sharedBy_176 ?_
          refine z_iload rfl dX8_sharedBy_179 ?_
          refine m_iald (((8 * b)) + m) (zl_a rfl rfl) rfl (by omega) (by decide) dX8_sharedBy_181 ?_
          refine z_icmp_eq 189 (by decide) dX8_sharedBy_182 (fun h7 => ?_) (fun h8 => ?_)
          · refine z_iconst (nI 0) (by decide) dX8_sharedBy_189 ?_
            refine z_iadd dX8_sharedBy_190 ?_
            refine z_istore (by decide) rfl dX8_sharedBy_191 ?_
            refine z_iinc (nI (((8 * b)) + m + 1)) rfl (zinc _) (by decide) rfl dX8_sharedBy_193 ?_
            refine z_goto 9 (by decide) dX8_sharedBy_196 ?_
            refine z_fgt [.ref (117), .int (nI c), .int (nI d), .int (nI b), .int ((s + (nI 0)) + (nI 0)), .int (nI (((8 * b)) + m + 1)), .null, .null, .null] ⟨Or.inl rfl, ⟨Or.inl rfl, ⟨Or.inl rfl, ⟨Or.inl rfl, ⟨Or.inl rfl, ⟨Or.inl rfl, ⟨Or.inr rfl, ⟨Or.inr rfl, ⟨Or.inr rfl, trivial⟩⟩⟩⟩⟩⟩⟩⟩⟩ ?_
            exact ih (8 - (m + 1)) (by omega) (m + 1) ((s + (nI 0)) + (nI 0)) rfl (by omega) (zst hs (by rw [dsb, if_neg (show ¬ dsA μ c d ((8 * b) + m) from (fun q => by first | exact absurd q.1 (by assumption) | exact q.1 (by assumption) | exact q.2.1 (by assumption) | exact absurd q.2.2.1 (by assumption) | exact absurd q.2.2.2.1 (by assumption) | exact q.2.2.2.2.elim (fun z => z (by assumption)) (fun z => z (by assumption)))), if_neg (show ¬ dsB μ c d ((8 * b) + m) from (fun q => by first | exact absurd q.1 (by assumption) | exact q.2 (by assumption)))]))
          · refine z_iconst (nI 1) (by decide) dX8_sharedBy_185 ?_
            refine z_goto 190 (by decide) dX8_sharedBy_186 ?_
            refine z_iadd dX8_sharedBy_190 ?_
            refine z_istore (by decide) rfl dX8_sharedBy_191 ?_
            refine z_iinc (nI (((8 * b)) + m + 1)) rfl (zinc _) (by decide) rfl dX8_sharedBy_193 ?_
            refine z_goto 9 (by decide) dX8_sharedBy_196 ?_
            refine z_fgt [.ref (117), .int (nI c), .int (nI d), .int (nI b), .int ((s + (nI 0)) + (nI 1)), .int (nI (((8 * b)) + m + 1)), .null, .null, .null] ⟨Or.inl rfl, ⟨Or.inl rfl, ⟨Or.inl rfl, ⟨Or.inl rfl, ⟨Or.inl rfl, ⟨Or.inl rfl, ⟨Or.inr rfl, ⟨Or.inr rfl, ⟨Or.inr rfl, trivial⟩⟩⟩⟩⟩⟩⟩⟩⟩ ?_
            exact ih (8 - (m + 1)) (by omega) (m + 1) ((s + (nI 0)) + (nI 1)) rfl (by omega) (zst hs (by rw [dsb, if_neg (show ¬ dsA μ c d ((8 * b) + m) from (fun q => by first | exact absurd q.1 (by assumption) | exact q.1 (by assumption) | exact q.2.1 (by assumption) | exact absurd q.2.2.1 (by assumption) | exact absurd q.2.2.2.1 (by assumption) | exact q.2.2.2.2.elim (fun z => z (by assumption)) (fun z => z (by assumption)))), if_pos (show dsB μ c d ((8 * b) + m) from ⟨by assumption, by assumption⟩)]))
      · refine z_aload_n rfl rfl dX8_sharedBy_49 ?_
        refine m_getR (130) kf_X8_46 (zl_a rfl rfl) rfl rfl (by decide) dX8_sharedBy_50 ?_
        refine z_iload rfl dX8_sharedBy_53 ?_
        refine m_zald ((24 * d) + (((8 * b)) + m)) (zl_a rfl rfl) rfl (by omega) (by decide) dX8_sharedBy_55 ?_
        refine z_if_eq 97 (by decide) dX8_sharedBy_56 (fun h9 => ?_) (fun h10 => ?_)
        · refine z_iconst (nI 0) (by decide) dX8_sharedBy_97 ?_
          refine z_istore (by decide) rfl dX8_sharedBy_98 ?_
          refine z_iload rfl dX8_sharedBy_100 ?_
          refine z_iload rfl dX8_sharedBy_102 ?_
          refine z_if_eq 145 (by decide) dX8_sharedBy_104 (fun _ => ?_) (fun h => absurd h (by decide))
          refine z_iconst (nI 0) (by decide) dX8_sharedBy_145 ?_
          refine z_iadd dX8_sharedBy_146 ?_
          refine z_istore (by decide) rfl dX8_sharedBy_147 ?_
          refine z_iload rfl dX8_sharedBy_149 ?_
          refine z_aload_n rfl rfl dX8_sharedBy_151 ?_
          refine m_getR (133) kf_X8_56 (zl_a rfl rfl) rfl rfl (by decide) dX8_sharedBy_152 ?_
          refine z_iload rfl dX8_sharedBy_155 ?_
          refine m_iald ((24 * c) + (((8 * b)) + m)) (zl_a rfl rfl) rfl (by omega) (by decide) dX8_sharedBy_157 ?_
          refine z_aload_n rfl rfl dX8_sharedBy_158 ?_
          refine m_getR (133) kf_X8_56 (zl_a rfl rfl) rfl rfl (by decide) dX8_sharedBy_159 ?_
          refine z_iload rfl dX8_sharedBy_162 ?_
          refine m_iald ((24 * d) + (((8 * b)) + m)) (zl_a rfl rfl) rfl (by omega) (by decide) dX8_sharedBy_164 ?_
          refine z_icmp_ne 189 (by decide) dX8_sharedBy_165 (fun h11 => ?_) (fun h12 => ?_)
          · refine z_iconst (nI 0) (by decide) dX8_sharedBy_189 ?_
            refine z_iadd dX8_sharedBy_190 ?_
            refine z_istore (by decide) rfl dX8_sharedBy_191 ?_
            refine z_iinc (nI (((8 * b)) + m + 1)) rfl (zinc _) (by decide) rfl dX8_sharedBy_193 ?_
            refine z_goto 9 (by decide) dX8_sharedBy_196 ?_
            refine z_fgt [.ref (117), .int (nI c), .int (nI d), .int (nI b), .int ((s + (nI 0)) + (nI 0)), .int (nI (((8 * b)) + m + 1)), .null, .null, .null] ⟨Or.inl rfl, ⟨Or.inl rfl, ⟨Or.inl rfl, ⟨Or.inl rfl, ⟨Or.inl rfl, ⟨Or.inl rfl, ⟨Or.inr rfl, ⟨Or.inr rfl, ⟨Or.inr rfl, trivial⟩⟩⟩⟩⟩⟩⟩⟩⟩ ?_
            exact ih (8 - (m + 1)) (by omega) (m + 1) ((s + (nI 0)) + (nI 0)) rfl (by omega) (zst hs (by rw [dsb, if_neg (show ¬ dsA μ c d ((8 * b) + m) from (fun q => by first | exact absurd q.1 (by assumption) | exact q.1 (by assumption) | exact q.2.1 (by assumption) | exact absurd q.2.2.1 (by assumption) | exact absurd q.2.2.2.1 (by assumption) | exact q.2.2.2.2.elim (fun z => z (by assumption)) (fun z => z (by assumption)))), if_neg (show ¬ dsB μ c d ((8 * b) + m) from (fun q => by first | exact absurd q.1 (by assumption) | exact q.2 (by assumption)))]))
          · refine z_aload_n rfl rfl dX8_sharedBy_168 ?_
            refine m_getR (133) kf_X8_56 (zl_a rfl rfl) rfl rfl (by decide) dX8_sharedBy_169 ?_
            refine z_iload rfl dX8_sharedBy_172 ?_
            refine m_iald ((24 * c) + (((8 * b)) + m)) (zl_a rfl rfl) rfl (by omega) (by decide) dX8_sharedBy_174 ?_
            refine z_aload_n rfl rfl dX8_sharedBy_175 ?_
            refine m_getR (120) kf_X8_16 (zl_a rfl rfl) rfl rfl (by decide) dX8_sharedBy_176 ?_
            refine z_iload rfl dX8_sharedBy_179 ?_
            refine m_iald (((8 * b)) + m) (zl_a rfl rfl) rfl (by omega) (by decide) dX8_sharedBy_181 ?_
            refine z_icmp_eq 189 (by decide) dX8_sharedBy_182 (fun h13 => ?_) (fun h14 => ?_)
            · refine z_iconst (nI 0) (by decide) dX8_sharedBy_189 ?_
              refine z_iadd dX8_sharedBy_190 ?_
              refine z_istore (by decide) rfl dX8_sharedBy_191 ?_
              refine z_iinc (nI (((8 * b)) + m + 1)) rfl (zinc _) (by decide) rfl dX8_sharedBy_193 ?_
              refine z_goto 9 (by decide) dX8_sharedBy_196 ?_
              refine z_fgt [.ref (117), .int (nI c), .int (nI d), .int (nI b), .int ((s + (nI 0)) + (nI 0)), .int (nI (((8 * b)) + m + 1)), .null, .null, .null] ⟨Or.inl rfl, ⟨Or.inl rfl, ⟨Or.inl rfl, ⟨Or.inl rfl, ⟨Or.inl rfl, ⟨Or.inl rfl, ⟨Or.inr rfl, ⟨Or.inr rfl, ⟨Or.inr rfl, trivial⟩⟩⟩⟩⟩⟩⟩⟩⟩ ?_
              exact ih (8 - (m + 1)) (by omega) (m + 1) ((s + (nI 0)) + (nI 0)) rfl (by omega) (zst hs (by rw [dsb, if_neg (show ¬ dsA μ c d ((8 * b) + m) from (fun q => by first | exact absurd q.1 (by assumption) | exact q.1 (by assumption) | exact q.2.1 (by assumption) | exact absurd q.2.2.1 (by assumption) | exact absurd q.2.2.2.1 (by assumption) | exact q.2.2.2.2.elim (fun z => z (by assumption)) (fun z => z (by assumption)))), if_neg (show ¬ dsB μ c d ((8 * b) + m) from (fun q => by first | exact absurd q.1 (by assumption) | exact q.2 (by assumption)))]))
            · refine z_iconst (nI 1) (by decide) dX8_sharedBy_185 ?_
              refine z_goto 190 (by decide) dX8_sharedBy_186 ?_
              refine z_iadd dX8_sharedBy_190 ?_
              refine z_istore (by decide) rfl dX8_sharedBy_191 ?_
              refine z_iinc (nI (((8 * b)) + m + 1)) rfl (zinc _) (by decide) rfl dX8_sharedBy_193 ?_
              refine z_goto 9 (by decide) dX8_sharedBy_196 ?_
              refine z_fgt [.ref (117), .int (nI c), .int (nI d), .int (nI b), .int ((s + (nI 0)) + (nI 1)), .int (nI (((8 * b)) + m + 1)), .null, .null, .null] ⟨Or.inl rfl, ⟨Or.inl rfl, ⟨Or.inl rfl, ⟨Or.inl rfl, ⟨Or.inl rfl, ⟨Or.inl rfl, ⟨Or.inr rfl, ⟨Or.inr rfl, ⟨Or.inr rfl, trivial⟩⟩⟩⟩⟩⟩⟩⟩⟩ ?_
              exact ih (8 - (m + 1)) (by omega) (m + 1) ((s + (nI 0)) + (nI 1)) rfl (by omega) (zst hs (by rw [dsb, if_neg (show ¬ dsA μ c d ((8 * b) + m) from (fun q => by first | exact absurd q.1 (by assumption) | exact q.1 (by assumption) | exact q.2.1 (by assumption) | exact absurd q.2.2.1 (by assumption) | exact absurd q.2.2.2.1 (by assumption) | exact q.2.2.2.2.elim (fun z => z (by assumption)) (fun z => z (by assumption)))), if_pos (show dsB μ c d ((8 * b) + m) from ⟨by assumption, by assumption⟩)]))
        · refine z_aload_n rfl rfl dX8_sharedBy_59 ?_
          refine m_getR (131) kf_X8_50 (zl_a rfl rfl) rfl rfl (by decide) dX8_sharedBy_60 ?_
          refine z_iload rfl dX8_sharedBy_63 ?_
          refine m_iald ((24 * c) + (((8 * b)) + m)) (zl_a rfl rfl) rfl (by omega) (by decide) dX8_sharedBy_65 ?_
          refine z_aload_n rfl rfl dX8_sharedBy_66 ?_
          refine m_getR (131) kf_X8_50 (zl_a rfl rfl) rfl rfl (by decide) dX8_sharedBy_67 ?_
          refine z_iload rfl dX8_sharedBy_70 ?_
          refine m_iald ((24 * d) + (((8 * b)) + m)) (zl_a rfl rfl) rfl (by omega) (by decide) dX8_sharedBy_72 ?_
          refine z_icmp_ne 97 (by decide) dX8_sharedBy_73 (fun h15 => ?_) (fun h16 => ?_)
          · refine z_iconst (nI 0) (by decide) dX8_sharedBy_97 ?_
            refine z_istore (by decide) rfl dX8_sharedBy_98 ?_
            refine z_iload rfl dX8_sharedBy_100 ?_
            refine z_iload rfl dX8_sharedBy_102 ?_
            refine z_if_eq 145 (by decide) dX8_sharedBy_104 (fun _ => ?_) (fun h => absurd h (by decide))
            refine z_iconst (nI 0) (by decide) dX8_sharedBy_145 ?_
            refine z_iadd dX8_sharedBy_146 ?_
            refine z_istore (by decide) rfl dX8_sharedBy_147 ?_
            refine z_iload rfl dX8_sharedBy_149 ?_
            refine z_aload_n rfl rfl dX8_sharedBy_151 ?_
            refine m_getR (133) kf_X8_56 (zl_a rfl rfl) rfl rfl (by decide) dX8_sharedBy_152 ?_
            refine z_iload rfl dX8_sharedBy_155 ?_
            refine m_iald ((24 * c) + (((8 * b)) + m)) (zl_a rfl rfl) rfl (by omega) (by decide) dX8_sharedBy_157 ?_
            refine z_aload_n rfl rfl dX8_sharedBy_158 ?_
            refine m_getR (133) kf_X8_56 (zl_a rfl rfl) rfl rfl (by decide) dX8_sharedBy_159 ?_
            refine z_iload rfl dX8_sharedBy_162 ?_
            refine m_iald ((24 * d) + (((8 * b)) + m)) (zl_a rfl rfl) rfl (by omega) (by decide) dX8_sharedBy_164 ?_
            refine z_icmp_ne 189 (by decide) dX8_sharedBy_165 (fun h17 => ?_) (fun h18 => ?_)
            · refine z_iconst (nI 0) (by decide) dX8_sharedBy_189 ?_
              refine z_iadd dX8_sharedBy_190 ?_
              refine z_istore (by decide) rfl dX8_sharedBy_191 ?_
              refine z_iinc (nI (((8 * b)) + m + 1)) rfl (zinc _) (by decide) rfl dX8_sharedBy_193 ?_
              refine z_goto 9 (by decide) dX8_sharedBy_196 ?_
              refine z_fgt [.ref (117), .int (nI c), .int (nI d), .int (nI b), .int ((s + (nI 0)) + (nI 0)), .int (nI (((8 * b)) + m + 1)), .null, .null, .null] ⟨Or.inl rfl, ⟨Or.inl rfl, ⟨Or.inl rfl, ⟨Or.inl rfl, ⟨Or.inl rfl, ⟨Or.inl rfl, ⟨Or.inr rfl, ⟨Or.inr rfl, ⟨Or.inr rfl, trivial⟩⟩⟩⟩⟩⟩⟩⟩⟩ ?_
              exact ih (8 - (m + 1)) (by omega) (m + 1) ((s + (nI 0)) + (nI 0)) rfl (by omega) (zst hs (by rw [dsb, if_neg (show ¬ dsA μ c d ((8 * b) + m) from (fun q => by first | exact absurd q.1 (by assumption) | exact q.1 (by assumption) | exact q.2.1 (by assumption) | exact absurd q.2.2.1 (by assumption) | exact absurd q.2.2.2.1 (by assumption) | exact q.2.2.2.2.elim (fun z => z (by assumption)) (fun z => z (by assumption)))), if_neg (show ¬ dsB μ c d ((8 * b) + m) from (fun q => by first | exact absurd q.1 (by assumption) | exact q.2 (by assumption)))]))
            · refine z_aload_n rfl rfl dX8_sharedBy_168 ?_
              refine m_getR (133) kf_X8_56 (zl_a rfl rfl) rfl rfl (by decide) dX8_sharedBy_169 ?_
              refine z_iload rfl dX8_sharedBy_172 ?_
              refine m_iald ((24 * c) + (((8 * b)) + m)) (zl_a rfl rfl) rfl (by omega) (by decide) dX8_sharedBy_174 ?_
              refine z_aload_n rfl rfl dX8_sharedBy_175 ?_
              refine m_getR (120) kf_X8_16 (zl_a rfl rfl) rfl rfl (by decide) dX8_sharedBy_176 ?_
              refine z_iload rfl dX8_sharedBy_179 ?_
              refine m_iald (((8 * b)) + m) (zl_a rfl rfl) rfl (by omega) (by decide) dX8_sharedBy_181 ?_
              refine z_icmp_eq 189 (by decide) dX8_sharedBy_182 (fun h19 => ?_) (fun h20 => ?_)
              · refine z_iconst (nI 0) (by decide) dX8_sharedBy_189 ?_
                refine z_iadd dX8_sharedBy_190 ?_
                refine z_istore (by decide) rfl dX8_sharedBy_191 ?_
                refine z_iinc (nI (((8 * b)) + m + 1)) rfl (zinc _) (by decide) rfl dX8_sharedBy_193 ?_
                refine z_goto 9 (by decide) dX8_sharedBy_196 ?_
                refine z_fgt [.ref (117), .int (nI c), .int (nI d), .int (nI b), .int ((s + (nI 0)) + (nI 0)), .int (nI (((8 * b)) + m + 1)), .null, .null, .null] ⟨Or.inl rfl, ⟨Or.inl rfl, ⟨Or.inl rfl, ⟨Or.inl rfl, ⟨Or.inl rfl, ⟨Or.inl rfl, ⟨Or.inr rfl, ⟨Or.inr rfl, ⟨Or.inr rfl, trivial⟩⟩⟩⟩⟩⟩⟩⟩⟩ ?_
                exact ih (8 - (m + 1)) (by omega) (m + 1) ((s + (nI 0)) + (nI 0)) rfl (by omega) (zst hs (by rw [dsb, if_neg (show ¬ dsA μ c d ((8 * b) + m) from (fun q => by first | exact absurd q.1 (by assumption) | exact q.1 (by assumption) | exact q.2.1 (by assumption) | exact absurd q.2.2.1 (by assumption) | exact absurd q.2.2.2.1 (by assumption) | exact q.2.2.2.2.elim (fun z => z (by assumption)) (fun z => z (by assumption)))), if_neg (show ¬ dsB μ c d ((8 * b) + m) from (fun q => by first | exact absurd q.1 (by assumption) | exact q.2 (by assumption)))]))
              · refine z_iconst (nI 1) (by decide) dX8_sharedBy_185 ?_
                refine z_goto 190 (by decide) dX8_sharedBy_186 ?_
                refine z_iadd dX8_sharedBy_190 ?_
                refine z_istore (by decide) rfl dX8_sharedBy_191 ?_
                refine z_iinc (nI (((8 * b)) + m + 1)) rfl (zinc _) (by decide) rfl dX8_sharedBy_193 ?_
                refine z_goto 9 (by decide) dX8_sharedBy_196 ?_
                refine z_fgt [.ref (117), .int (nI c), .int (nI d), .int (nI b), .int ((s + (nI 0)) + (nI 1)), .int (nI (((8 * b)) + m + 1)), .null, .null, .null] ⟨Or.inl rfl, ⟨Or.inl rfl, ⟨Or.inl rfl, ⟨Or.inl rfl, ⟨Or.inl rfl, ⟨Or.inl rfl, ⟨Or.inr rfl, ⟨Or.inr rfl, ⟨Or.inr rfl, trivial⟩⟩⟩⟩⟩⟩⟩⟩⟩ ?_
                exact ih (8 - (m + 1)) (by omega) (m + 1) ((s + (nI 0)) + (nI 1)) rfl (by omega) (zst hs (by rw [dsb, if_neg (show ¬ dsA μ c d ((8 * b) + m) from (fun q => by first | exact absurd q.1 (by assumption) | exact q.1 (by assumption) | exact q.2.1 (by assumption) | exact absurd q.2.2.1 (by assumption) | exact absurd q.2.2.2.1 (by assumption) | exact q.2.2.2.2.elim (fun z => z (by assumption)) (fun z => z (by assumption)))), if_pos (show dsB μ c d ((8 * b) + m) from ⟨by assumption, by assumption⟩)]))
          · refine z_aload_n rfl rfl dX8_sharedBy_76 ?_
            refine m_getR (132) kf_X8_53 (zl_a rfl rfl) rfl rfl (by decide) dX8_sharedBy_77 ?_
            refine z_iload rfl dX8_sharedBy_80 ?_
            refine m_iald ((24 * c) + (((8 * b)) + m)) (zl_a rfl rfl) rfl (by omega) (by decide) dX8_sharedBy_82 ?_
            refine z_aload_n rfl rfl dX8_sharedBy_83 ?_
            refine m_getR (132) kf_X8_53 (zl_a rfl rfl) rfl rfl (by decide) dX8_sharedBy_84 ?_
            refine z_iload rfl dX8_sharedBy_87 ?_
            refine m_iald ((24 * d) + (((8 * b)) + m)) (zl_a rfl rfl) rfl (by omega) (by decide) dX8_sharedBy_89 ?_
            refine z_icmp_ne 97 (by decide) dX8_sharedBy_90 (fun h21 => ?_) (fun h22 => ?_)
            · refine z_iconst (nI 0) (by decide) dX8_sharedBy_97 ?_
              refine z_istore (by decide) rfl dX8_sharedBy_98 ?_
              refine z_iload rfl dX8_sharedBy_100 ?_
              refine z_iload rfl dX8_sharedBy_102 ?_
              refine z_if_eq 145 (by decide) dX8_sharedBy_104 (fun _ => ?_) (fun h => absurd h (by decide))
              refine z_iconst (nI 0) (by decide) dX8_sharedBy_145 ?_
              refine z_iadd dX8_sharedBy_146 ?_
              refine z_istore (by decide) rfl dX8_sharedBy_147 ?_
              refine z_iload rfl dX8_sharedBy_149 ?_
              refine z_aload_n rfl rfl dX8_sharedBy_151 ?_
              refine m_getR (133) kf_X8_56 (zl_a rfl rfl) rfl rfl (by decide) dX8_sharedBy_152 ?_
              refine z_iload rfl dX8_sharedBy_155 ?_
              refine m_iald ((24 * c) + (((8 * b)) + m)) (zl_a rfl rfl) rfl (by omega) (by decide) dX8_sharedBy_157 ?_
              refine z_aload_n rfl rfl dX8_sharedBy_158 ?_
              refine m_getR (133) kf_X8_56 (zl_a rfl rfl) rfl rfl (by decide) dX8_sharedBy_159 ?_
              refine z_iload rfl dX8_sharedBy_162 ?_
              refine m_iald ((24 * d) + (((8 * b)) + m)) (zl_a rfl rfl) rfl (by omega) (by decide) dX8_sharedBy_164 ?_
              refine z_icmp_ne 189 (by decide) dX8_sharedBy_165 (fun h23 => ?_) (fun h24 => ?_)
              · refine z_iconst (nI 0) (by decide) dX8_sharedBy_189 ?_
                refine z_iadd dX8_sharedBy_190 ?_
                refine z_istore (by decide) rfl dX8_sharedBy_191 ?_
                refine z_iinc (nI (((8 * b)) + m + 1)) rfl (zinc _) (by decide) rfl dX8_sharedBy_193 ?_
                refine z_goto 9 (by decide) dX8_sharedBy_196 ?_
                refine z_fgt [.ref (117), .int (nI c), .int (nI d), .int (nI b), .int ((s + (nI 0)) + (nI 0)), .int (nI (((8 * b)) + m + 1)), .null, .null, .null] ⟨Or.inl rfl, ⟨Or.inl rfl, ⟨Or.inl rfl, ⟨Or.inl rfl, ⟨Or.inl rfl, ⟨Or.inl rfl, ⟨Or.inr rfl, ⟨Or.inr rfl, ⟨Or.inr rfl, trivial⟩⟩⟩⟩⟩⟩⟩⟩⟩ ?_
                exact ih (8 - (m + 1)) (by omega) (m + 1) ((s + (nI 0)) + (nI 0)) rfl (by omega) (zst hs (by rw [dsb, if_neg (show ¬ dsA μ c d ((8 * b) + m) from (fun q => by first | exact absurd q.1 (by assumption) | exact q.1 (by assumption) | exact q.2.1 (by assumption) | exact absurd q.2.2.1 (by assumption) | exact absurd q.2.2.2.1 (by assumption) | exact q.2.2.2.2.elim (fun z => z (by assumption)) (fun z => z (by assumption)))), if_neg (show ¬ dsB μ c d ((8 * b) + m) from (fun q => by first | exact absurd q.1 (by assumption) | exact q.2 (by assumption)))]))
              · refine z_aload_n rfl rfl dX8_sharedBy_168 ?_
                refine m_getR (133) kf_X8_56 (zl_a rfl rfl) rfl rfl (by decide) dX8_sharedBy_169 ?_
                refine z_iload rfl dX8_sharedBy_172 ?_
                refine m_iald ((24 * c) + (((8 * b)) + m)) (zl_a rfl rfl) rfl (by omega) (by decide) dX8_sharedBy_174 ?_
                refine z_aload_n rfl rfl dX8_sharedBy_175 ?_
                refine m_getR (120) kf_X8_16 (zl_a rfl rfl) rfl rfl (by decide) dX8_sharedBy_176 ?_
                refine z_iload rfl dX8_sharedBy_179 ?_
                refine m_iald (((8 * b)) + m) (zl_a rfl rfl) rfl (by omega) (by decide) dX8_sharedBy_181 ?_
                refine z_icmp_eq 189 (by decide) dX8_sharedBy_182 (fun h25 => ?_) (fun h26 => ?_)
                · refine z_iconst (nI 0) (by decide) dX8_sharedBy_189 ?_
                  refine z_iadd dX8_sharedBy_190 ?_
                  refine z_istore (by decide) rfl dX8_sharedBy_191 ?_
                  refine z_iinc (nI (((8 * b)) + m + 1)) rfl (zinc _) (by decide) rfl dX8_sharedBy_193 ?_
                  refine z_goto 9 (by decide) dX8_sharedBy_196 ?_
                  refine z_fgt [.ref (117), .int (nI c), .int (nI d), .int (nI b), .int ((s + (nI 0)) + (nI 0)), .int (nI (((8 * b)) + m + 1)), .null, .null, .null] ⟨Or.inl rfl, ⟨Or.inl rfl, ⟨Or.inl rfl, ⟨Or.inl rfl, ⟨Or.inl rfl, ⟨Or.inl rfl, ⟨Or.inr rfl, ⟨Or.inr rfl, ⟨Or.inr rfl, trivial⟩⟩⟩⟩⟩⟩⟩⟩⟩ ?_
                  exact ih (8 - (m + 1)) (by omega) (m + 1) ((s + (nI 0)) + (nI 0)) rfl (by omega) (zst hs (by rw [dsb, if_neg (show ¬ dsA μ c d ((8 * b) + m) from (fun q => by first | exact absurd q.1 (by assumption) | exact q.1 (by assumption) | exact q.2.1 (by assumption) | exact absurd q.2.2.1 (by assumption) | exact absurd q.2.2.2.1 (by assumption) | exact q.2.2.2.2.elim (fun z => z (by assumption)) (fun z => z (by assumption)))), if_neg (show ¬ dsB μ c d ((8 * b) + m) from (fun q => by first | exact absurd q.1 (by assumption) | exact q.2 (by assumption)))]))
                · refine z_iconst (nI 1) (by decide) dX8_sharedBy_185 ?_
                  refine z_goto 190 (by decide) dX8_sharedBy_186 ?_
                  refine z_iadd dX8_sharedBy_190 ?_
                  refine z_istore (by decide) rfl dX8_sharedBy_191 ?_
                  refine z_iinc (nI (((8 * b)) + m + 1)) rfl (zinc _) (by decide) rfl dX8_sharedBy_193 ?_
                  refine z_goto 9 (by decide) dX8_sharedBy_196 ?_
                  refine z_fgt [.ref (117), .int (nI c), .int (nI d), .int (nI b), .int ((s + (nI 0)) + (nI 1)), .int (nI (((8 * b)) + m + 1)), .null, .null, .null] ⟨Or.inl rfl, ⟨Or.inl rfl, ⟨Or.inl rfl, ⟨Or.inl rfl, ⟨Or.inl rfl, ⟨Or.inl rfl, ⟨Or.inr rfl, ⟨Or.inr rfl, ⟨Or.inr rfl, trivial⟩⟩⟩⟩⟩⟩⟩⟩⟩ ?_
                  exact ih (8 - (m + 1)) (by omega) (m + 1) ((s + (nI 0)) + (nI 1)) rfl (by omega) (zst hs (by rw [dsb, if_neg (show ¬ dsA μ c d ((8 * b) + m) from (fun q => by first | exact absurd q.1 (by assumption) | exact q.1 (by assumption) | exact q.2.1 (by assumption) | exact absurd q.2.2.1 (by assumption) | exact absurd q.2.2.2.1 (by assumption) | exact q.2.2.2.2.elim (fun z => z (by assumption)) (fun z => z (by assumption)))), if_pos (show dsB μ c d ((8 * b) + m) from ⟨by assumption, by assumption⟩)]))
            · refine z_iconst (nI 1) (by decide) dX8_sharedBy_93 ?_
              refine z_goto 98 (by decide) dX8_sharedBy_94 ?_
              refine z_istore (by decide) rfl dX8_sharedBy_98 ?_
              refine z_iload rfl dX8_sharedBy_100 ?_
              refine z_iload rfl dX8_sharedBy_102 ?_
              refine z_if_eq 145 (by decide) dX8_sharedBy_104 (fun h => absurd h (by decide)) (fun _ => ?_)
              refine z_aload_n rfl rfl dX8_sharedBy_107 ?_
              refine m_getR (131) kf_X8_50 (zl_a rfl rfl) rfl rfl (by decide) dX8_sharedBy_108 ?_
              refine z_iload rfl dX8_sharedBy_111 ?_
              refine m_iald ((24 * c) + (((8 * b)) + m)) (zl_a rfl rfl) rfl (by omega) (by decide) dX8_sharedBy_113 ?_
              refine z_aload_n rfl rfl dX8_sharedBy_114 ?_
              refine m_getR (118) kf_X8_7 (zl_a rfl rfl) rfl rfl (by decide) dX8_sharedBy_115 ?_
              refine z_iload rfl dX8_sharedBy_118 ?_
              refine m_iald (((8 * b)) + m) (zl_a rfl rfl) rfl (by omega) (by decide) dX8_sharedBy_120 ?_
              refine z_icmp_ne 141 (by decide) dX8_sharedBy_121 (fun h27 => ?_) (fun h28 => ?_)
              · refine z_iconst (nI 1) (by decide) dX8_sharedBy_141 ?_
                refine z_goto 146 (by decide) dX8_sharedBy_142 ?_
                refine z_iadd dX8_sharedBy_146 ?_
                refine z_istore (by decide) rfl dX8_sharedBy_147 ?_
                refine z_iload rfl dX8_sharedBy_149 ?_
                refine z_aload_n rfl rfl dX8_sharedBy_151 ?_
                refine m_getR (133) kf_X8_56 (zl_a rfl rfl) rfl rfl (by decide) dX8_sharedBy_152 ?_
                refine z_iload rfl dX8_sharedBy_155 ?_
                refine m_iald ((24 * c) + (((8 * b)) + m)) (zl_a rfl rfl) rfl (by omega) (by decide) dX8_sharedBy_157 ?_
                refine z_aload_n rfl rfl dX8_sharedBy_158 ?_
                refine m_getR (133) kf_X8_56 (zl_a rfl rfl) rfl rfl (by decide) dX8_sharedBy_159 ?_
                refine z_iload rfl dX8_sharedBy_162 ?_
                refine m_iald ((24 * d) + (((8 * b)) + m)) (zl_a rfl rfl) rfl (by omega) (by decide) dX8_sharedBy_164 ?_
                refine z_icmp_ne 189 (by decide) dX8_sharedBy_165 (fun h29 => ?_) (fun h30 => ?_)
                · refine z_iconst (nI 0) (by decide) dX8_sharedBy_189 ?_
                  refine z_iadd dX8_sharedBy_190 ?_
                  refine z_istore (by decide) rfl dX8_sharedBy_191 ?_
                  refine z_iinc (nI (((8 * b)) + m + 1)) rfl (zinc _) (by decide) rfl dX8_sharedBy_193 ?_
                  refine z_goto 9 (by decide) dX8_sharedBy_196 ?_
                  refine z_fgt [.ref (117), .int (nI c), .int (nI d), .int (nI b), .int ((s + (nI 1)) + (nI 0)), .int (nI (((8 * b)) + m + 1)), .null, .null, .null] ⟨Or.inl rfl, ⟨Or.inl rfl, ⟨Or.inl rfl, ⟨Or.inl rfl, ⟨Or.inl rfl, ⟨Or.inl rfl, ⟨Or.inr rfl, ⟨Or.inr rfl, ⟨Or.inr rfl, trivial⟩⟩⟩⟩⟩⟩⟩⟩⟩ ?_
                  exact ih (8 - (m + 1)) (by omega) (m + 1) ((s + (nI 1)) + (nI 0)) rfl (by omega) (zst hs (by rw [dsb, if_pos (show dsA μ c d ((8 * b) + m) from ⟨by assumption, by assumption, by assumption, by assumption, by first | exact Or.inl (by assumption) | exact Or.inr (by assumption)⟩), if_neg (show ¬ dsB μ c d ((8 * b) + m) from (fun q => by first | exact absurd q.1 (by assumption) | exact q.2 (by assumption)))]))
                · refine z_aload_n rfl rfl dX8_sharedBy_168 ?_
                  refine m_getR (133) kf_X8_56 (zl_a rfl rfl) rfl rfl (by decide) dX8_sharedBy_169 ?_
                  refine z_iload rfl dX8_sharedBy_172 ?_
                  refine m_iald ((24 * c) + (((8 * b)) + m)) (zl_a rfl rfl) rfl (by omega) (by decide) dX8_sharedBy_174 ?_
                  refine z_aload_n rfl rfl dX8_sharedBy_175 ?_
                  refine m_getR (120) kf_X8_16 (zl_a rfl rfl) rfl rfl (by decide) dX8_sharedBy_176 ?_
                  refine z_iload rfl dX8_sharedBy_179 ?_
                  refine m_iald (((8 * b)) + m) (zl_a rfl rfl) rfl (by omega) (by decide) dX8_sharedBy_181 ?_
                  refine z_icmp_eq 189 (by decide) dX8_sharedBy_182 (fun h31 => ?_) (fun h32 => ?_)
                  · refine z_iconst (nI 0) (by decide) dX8_sharedBy_189 ?_
                    refine z_iadd dX8_sharedBy_190 ?_
                    refine z_istore (by decide) rfl dX8_sharedBy_191 ?_
                    refine z_iinc (nI (((8 * b)) + m + 1)) rfl (zinc _) (by decide) rfl dX8_sharedBy_193 ?_
                    refine z_goto 9 (by decide) dX8_sharedBy_196 ?_
                    refine z_fgt [.ref (117), .int (nI c), .int (nI d), .int (nI b), .int ((s + (nI 1)) + (nI 0)), .int (nI (((8 * b)) + m + 1)), .null, .null, .null] ⟨Or.inl rfl, ⟨Or.inl rfl, ⟨Or.inl rfl, ⟨Or.inl rfl, ⟨Or.inl rfl, ⟨Or.inl rfl, ⟨Or.inr rfl, ⟨Or.inr rfl, ⟨Or.inr rfl, trivial⟩⟩⟩⟩⟩⟩⟩⟩⟩ ?_
                    exact ih (8 - (m + 1)) (by omega) (m + 1) ((s + (nI 1)) + (nI 0)) rfl (by omega) (zst hs (by rw [dsb, if_pos (show dsA μ c d ((8 * b) + m) from ⟨by assumption, by assumption, by assumption, by assumption, by first | exact Or.inl (by assumption) | exact Or.inr (by assumption)⟩), if_neg (show ¬ dsB μ c d ((8 * b) + m) from (fun q => by first | exact absurd q.1 (by assumption) | exact q.2 (by assumption)))]))
                  · refine z_iconst (nI 1) (by decide) dX8_sharedBy_185 ?_
                    refine z_goto 190 (by decide) dX8_sharedBy_186 ?_
                    refine z_iadd dX8_sharedBy_190 ?_
                    refine z_istore (by decide) rfl dX8_sharedBy_191 ?_
                    refine z_iinc (nI (((8 * b)) + m + 1)) rfl (zinc _) (by decide) rfl dX8_sharedBy_193 ?_
                    refine z_goto 9 (by decide) dX8_sharedBy_196 ?_
                    refine z_fgt [.ref (117), .int (nI c), .int (nI d), .int (nI b), .int ((s + (nI 1)) + (nI 1)), .int (nI (((8 * b)) + m + 1)), .null, .null, .null] ⟨Or.inl rfl, ⟨Or.inl rfl, ⟨Or.inl rfl, ⟨Or.inl rfl, ⟨Or.inl rfl, ⟨Or.inl rfl, ⟨Or.inr rfl, ⟨Or.inr rfl, ⟨Or.inr rfl, trivial⟩⟩⟩⟩⟩⟩⟩⟩⟩ ?_
                    exact ih (8 - (m + 1)) (by omega) (m + 1) ((s + (nI 1)) + (nI 1)) rfl (by omega) (zst hs (by rw [dsb, if_pos (show dsA μ c d ((8 * b) + m) from ⟨by assumption, by assumption, by assumption, by assumption, by first | exact Or.inl (by assumption) | exact Or.inr (by assumption)⟩), if_pos (show dsB μ c d ((8 * b) + m) from ⟨by assumption, by assumption⟩)]))
              · refine z_aload_n rfl rfl dX8_sharedBy_124 ?_
                refine m_getR (132) kf_X8_53 (zl_a rfl rfl) rfl rfl (by decide) dX8_sharedBy_125 ?_
                refine z_iload rfl dX8_sharedBy_128 ?_
                refine m_iald ((24 * c) + (((8 * b)) + m)) (zl_a rfl rfl) rfl (by omega) (by decide) dX8_sharedBy_130 ?_
                refine z_aload_n rfl rfl dX8_sharedBy_131 ?_
                refine m_getR (119) kf_X8_13 (zl_a rfl rfl) rfl rfl (by decide) dX8_sharedBy_132 ?_
                refine z_iload rfl dX8_sharedBy_135 ?_
                refine m_iald (((8 * b)) + m) (zl_a rfl rfl) rfl (by omega) (by decide) dX8_sharedBy_137 ?_
                refine z_icmp_eq 145 (by decide) dX8_sharedBy_138 (fun h33 => ?_) (fun h34 => ?_)
                · refine z_iconst (nI 0) (by decide) dX8_sharedBy_145 ?_
                  refine z_iadd dX8_sharedBy_146 ?_
                  refine z_istore (by decide) rfl dX8_sharedBy_147 ?_
                  refine z_iload rfl dX8_sharedBy_149 ?_
                  refine z_aload_n rfl rfl dX8_sharedBy_151 ?_
                  refine m_getR (133) kf_X8_56 (zl_a rfl rfl) rfl rfl (by decide) dX8_sharedBy_152 ?_
                  refine z_iload rfl dX8_sharedBy_155 ?_
                  refine m_iald ((24 * c) + (((8 * b)) + m)) (zl_a rfl rfl) rfl (by omega) (by decide) dX8_sharedBy_157 ?_
                  refine z_aload_n rfl rfl dX8_sharedBy_158 ?_
                  refine m_getR (133) kf_X8_56 (zl_a rfl rfl) rfl rfl (by decide) dX8_sharedBy_159 ?_
                  refine z_iload rfl dX8_sharedBy_162 ?_
                  refine m_iald ((24 * d) + (((8 * b)) + m)) (zl_a rfl rfl) rfl (by omega) (by decide) dX8_sharedBy_164 ?_
                  refine z_icmp_ne 189 (by decide) dX8_sharedBy_165 (fun h35 => ?_) (fun h36 => ?_)
                  · refine z_iconst (nI 0) (by decide) dX8_sharedBy_189 ?_
                    refine z_iadd dX8_sharedBy_190 ?_
                    refine z_istore (by decide) rfl dX8_sharedBy_191 ?_
                    refine z_iinc (nI (((8 * b)) + m + 1)) rfl (zinc _) (by decide) rfl dX8_sharedBy_193 ?_
                    refine z_goto 9 (by decide) dX8_sharedBy_196 ?_
                    refine z_fgt [.ref (117), .int (nI c), .int (nI d), .int (nI b), .int ((s + (nI 0)) + (nI 0)), .int (nI (((8 * b)) + m + 1)), .null, .null, .null] ⟨Or.inl rfl, ⟨Or.inl rfl, ⟨Or.inl rfl, ⟨Or.inl rfl, ⟨Or.inl rfl, ⟨Or.inl rfl, ⟨Or.inr rfl, ⟨Or.inr rfl, ⟨Or.inr rfl, trivial⟩⟩⟩⟩⟩⟩⟩⟩⟩ ?_
                    exact ih (8 - (m + 1)) (by omega) (m + 1) ((s + (nI 0)) + (nI 0)) rfl (by omega) (zst hs (by rw [dsb, if_neg (show ¬ dsA μ c d ((8 * b) + m) from (fun q => by first | exact absurd q.1 (by assumption) | exact q.1 (by assumption) | exact q.2.1 (by assumption) | exact absurd q.2.2.1 (by assumption) | exact absurd q.2.2.2.1 (by assumption) | exact q.2.2.2.2.elim (fun z => z (by assumption)) (fun z => z (by assumption)))), if_neg (show ¬ dsB μ c d ((8 * b) + m) from (fun q => by first | exact absurd q.1 (by assumption) | exact q.2 (by assumption)))]))
                  · refine z_aload_n rfl rfl dX8_sharedBy_168 ?_
                    refine m_getR (133) kf_X8_56 (zl_a rfl rfl) rfl rfl (by decide) dX8_sharedBy_169 ?_
                    refine z_iload rfl dX8_sharedBy_172 ?_
                    refine m_iald ((24 * c) + (((8 * b)) + m)) (zl_a rfl rfl) rfl (by omega) (by decide) dX8_sharedBy_174 ?_
                    refine z_aload_n rfl rfl dX8_sharedBy_175 ?_
                    refine m_getR (120) kf_X8_16 (zl_a rfl rfl) rfl rfl (by decide) dX8_sharedBy_176 ?_
                    refine z_iload rfl dX8_sharedBy_179 ?_
                    refine m_iald (((8 * b)) + m) (zl_a rfl rfl) rfl (by omega) (by decide) dX8_sharedBy_181 ?_
                    refine z_icmp_eq 189 (by decide) dX8_sharedBy_182 (fun h37 => ?_) (fun h38 => ?_)
                    · refine z_iconst (nI 0) (by decide) dX8_sharedBy_189 ?_
                      refine z_iadd dX8_sharedBy_190 ?_
                      refine z_istore (by decide) rfl dX8_sharedBy_191 ?_
                      refine z_iinc (nI (((8 * b)) + m + 1)) rfl (zinc _) (by decide) rfl dX8_sharedBy_193 ?_
                      refine z_goto 9 (by decide) dX8_sharedBy_196 ?_
                      refine z_fgt [.ref (117), .int (nI c), .int (nI d), .int (nI b), .int ((s + (nI 0)) + (nI 0)), .int (nI (((8 * b)) + m + 1)), .null, .null, .null] ⟨Or.inl rfl, ⟨Or.inl rfl, ⟨Or.inl rfl, ⟨Or.inl rfl, ⟨Or.inl rfl, ⟨Or.inl rfl, ⟨Or.inr rfl, ⟨Or.inr rfl, ⟨Or.inr rfl, trivial⟩⟩⟩⟩⟩⟩⟩⟩⟩ ?_
                      exact ih (8 - (m + 1)) (by omega) (m + 1) ((s + (nI 0)) + (nI 0)) rfl (by omega) (zst hs (by rw [dsb, if_neg (show ¬ dsA μ c d ((8 * b) + m) from (fun q => by first | exact absurd q.1 (by assumption) | exact q.1 (by assumption) | exact q.2.1 (by assumption) | exact absurd q.2.2.1 (by assumption) | exact absurd q.2.2.2.1 (by assumption) | exact q.2.2.2.2.elim (fun z => z (by assumption)) (fun z => z (by assumption)))), if_neg (show ¬ dsB μ c d ((8 * b) + m) from (fun q => by first | exact absurd q.1 (by assumption) | exact q.2 (by assumption)))]))
                    · refine z_iconst (nI 1) (by decide) dX8_sharedBy_185 ?_
                      refine z_goto 190 (by decide) dX8_sharedBy_186 ?_
                      refine z_iadd dX8_sharedBy_190 ?_
                      refine z_istore (by decide) rfl dX8_sharedBy_191 ?_
                      refine z_iinc (nI (((8 * b)) + m + 1)) rfl (zinc _) (by decide) rfl dX8_sharedBy_193 ?_
                      refine z_goto 9 (by decide) dX8_sharedBy_196 ?_
                      refine z_fgt [.ref (117), .int (nI c), .int (nI d), .int (nI b), .int ((s + (nI 0)) + (nI 1)), .int (nI (((8 * b)) + m + 1)), .null, .null, .null] ⟨Or.inl rfl, ⟨Or.inl rfl, ⟨Or.inl rfl, ⟨Or.inl rfl, ⟨Or.inl rfl, ⟨Or.inl rfl, ⟨Or.inr rfl, ⟨Or.inr rfl, ⟨Or.inr rfl, trivial⟩⟩⟩⟩⟩⟩⟩⟩⟩ ?_
                      exact ih (8 - (m + 1)) (by omega) (m + 1) ((s + (nI 0)) + (nI 1)) rfl (by omega) (zst hs (by rw [dsb, if_neg (show ¬ dsA μ c d ((8 * b) + m) from (fun q => by first | exact absurd q.1 (by assumption) | exact q.1 (by assumption) | exact q.2.1 (by assumption) | exact absurd q.2.2.1 (by assumption) | exact absurd q.2.2.2.1 (by assumption) | exact q.2.2.2.2.elim (fun z => z (by assumption)) (fun z => z (by assumption)))), if_pos (show dsB μ c d ((8 * b) + m) from ⟨by assumption, by assumption⟩)]))
                · refine z_iconst (nI 1) (by decide) dX8_sharedBy_141 ?_
                  refine z_goto 146 (by decide) dX8_sharedBy_142 ?_
                  refine z_iadd dX8_sharedBy_146 ?_
                  refine z_istore (by decide) rfl dX8_sharedBy_147 ?_
                  refine z_iload rfl dX8_sharedBy_149 ?_
                  refine z_aload_n rfl rfl dX8_sharedBy_151 ?_
                  refine m_getR (133) kf_X8_56 (zl_a rfl rfl) rfl rfl (by decide) dX8_sharedBy_152 ?_
                  refine z_iload rfl dX8_sharedBy_155 ?_
                  refine m_iald ((24 * c) + (((8 * b)) + m)) (zl_a rfl rfl) rfl (by omega) (by decide) dX8_sharedBy_157 ?_
                  refine z_aload_n rfl rfl dX8_sharedBy_158 ?_
                  refine m_getR (133) kf_X8_56 (zl_a rfl rfl) rfl rfl (by decide) dX8_sharedBy_159 ?_
                  refine z_iload rfl dX8_sharedBy_162 ?_
                  refine m_iald ((24 * d) + (((8 * b)) + m)) (zl_a rfl rfl) rfl (by omega) (by decide) dX8_sharedBy_164 ?_
                  refine z_icmp_ne 189 (by decide) dX8_sharedBy_165 (fun h39 => ?_) (fun h40 => ?_)
                  · refine z_iconst (nI 0) (by decide) dX8_sharedBy_189 ?_
                    refine z_iadd dX8_sharedBy_190 ?_
                    refine z_istore (by decide) rfl dX8_sharedBy_191 ?_
                    refine z_iinc (nI (((8 * b)) + m + 1)) rfl (zinc _) (by decide) rfl dX8_sharedBy_193 ?_
                    refine z_goto 9 (by decide) dX8_sharedBy_196 ?_
                    refine z_fgt [.ref (117), .int (nI c), .int (nI d), .int (nI b), .int ((s + (nI 1)) + (nI 0)), .int (nI (((8 * b)) + m + 1)), .null, .null, .null] ⟨Or.inl rfl, ⟨Or.inl rfl, ⟨Or.inl rfl, ⟨Or.inl rfl, ⟨Or.inl rfl, ⟨Or.inl rfl, ⟨Or.inr rfl, ⟨Or.inr rfl, ⟨Or.inr rfl, trivial⟩⟩⟩⟩⟩⟩⟩⟩⟩ ?_
                    exact ih (8 - (m + 1)) (by omega) (m + 1) ((s + (nI 1)) + (nI 0)) rfl (by omega) (zst hs (by rw [dsb, if_pos (show dsA μ c d ((8 * b) + m) from ⟨by assumption, by assumption, by assumption, by assumption, by first | exact Or.inl (by assumption) | exact Or.inr (by assumption)⟩), if_neg (show ¬ dsB μ c d ((8 * b) + m) from (fun q => by first | exact absurd q.1 (by assumption) | exact q.2 (by assumption)))]))
                  · refine z_aload_n rfl rfl dX8_sharedBy_168 ?_
                    refine m_getR (133) kf_X8_56 (zl_a rfl rfl) rfl rfl (by decide) dX8_sharedBy_169 ?_
                    refine z_iload rfl dX8_sharedBy_172 ?_
                    refine m_iald ((24 * c) + (((8 * b)) + m)) (zl_a rfl rfl) rfl (by omega) (by decide) dX8_sharedBy_174 ?_
                    refine z_aload_n rfl rfl dX8_sharedBy_175 ?_
                    refine m_getR (120) kf_X8_16 (zl_a rfl rfl) rfl rfl (by decide) dX8_sharedBy_176 ?_
                    refine z_iload rfl dX8_sharedBy_179 ?_
                    refine m_iald (((8 * b)) + m) (zl_a rfl rfl) rfl (by omega) (by decide) dX8_sharedBy_181 ?_
                    refine z_icmp_eq 189 (by decide) dX8_sharedBy_182 (fun h41 => ?_) (fun h42 => ?_)
                    · refine z_iconst (nI 0) (by decide) dX8_sharedBy_189 ?_
                      refine z_iadd dX8_sharedBy_190 ?_
                      refine z_istore (by decide) rfl dX8_sharedBy_191 ?_
                      refine z_iinc (nI (((8 * b)) + m + 1)) rfl (zinc _) (by decide) rfl dX8_sharedBy_193 ?_
                      refine z_goto 9 (by decide) dX8_sharedBy_196 ?_
                      refine z_fgt [.ref (117), .int (nI c), .int (nI d), .int (nI b), .int ((s + (nI 1)) + (nI 0)), .int (nI (((8 * b)) + m + 1)), .null, .null, .null] ⟨Or.inl rfl, ⟨Or.inl rfl, ⟨Or.inl rfl, ⟨Or.inl rfl, ⟨Or.inl rfl, ⟨Or.inl rfl, ⟨Or.inr rfl, ⟨Or.inr rfl, ⟨Or.inr rfl, trivial⟩⟩⟩⟩⟩⟩⟩⟩⟩ ?_
                      exact ih (8 - (m + 1)) (by omega) (m + 1) ((s + (nI 1)) + (nI 0)) rfl (by omega) (zst hs (by rw [dsb, if_pos (show dsA μ c d ((8 * b) + m) from ⟨by assumption, by assumption, by assumption, by assumption, by first | exact Or.inl (by assumption) | exact Or.inr (by assumption)⟩), if_neg (show ¬ dsB μ c d ((8 * b) + m) from (fun q => by first | exact absurd q.1 (by assumption) | exact q.2 (by assumption)))]))
                    · refine z_iconst (nI 1) (by decide) dX8_sharedBy_185 ?_
                      refine z_goto 190 (by decide) dX8_sharedBy_186 ?_
                      refine z_iadd dX8_sharedBy_190 ?_
                      refine z_istore (by decide) rfl dX8_sharedBy_191 ?_
                      refine z_iinc (nI (((8 * b)) + m + 1)) rfl (zinc _) (by decide) rfl dX8_sharedBy_193 ?_
                      refine z_goto 9 (by decide) dX8_sharedBy_196 ?_
                      refine z_fgt [.ref (117), .int (nI c), .int (nI d), .int (nI b), .int ((s + (nI 1)) + (nI 1)), .int (nI (((8 * b)) + m + 1)), .null, .null, .null] ⟨Or.inl rfl, ⟨Or.inl rfl, ⟨Or.inl rfl, ⟨Or.inl rfl, ⟨Or.inl rfl, ⟨Or.inl rfl, ⟨Or.inr rfl, ⟨Or.inr rfl, ⟨Or.inr rfl, trivial⟩⟩⟩⟩⟩⟩⟩⟩⟩ ?_
                      exact ih (8 - (m + 1)) (by omega) (m + 1) ((s + (nI 1)) + (nI 1)) rfl (by omega) (zst hs (by rw [dsb, if_pos (show dsA μ c d ((8 * b) + m) from ⟨by assumption, by assumption, by assumption, by assumption, by first | exact Or.inl (by assumption) | exact Or.inr (by assumption)⟩), if_pos (show dsB μ c d ((8 * b) + m) from ⟨by assumption, by assumption⟩)]))
set_option maxRecDepth 100000 in
set_option maxHeartbeats 4000000 in
theorem lp2_X8_sharedBy {E : Nat × (Nat → Int32)} {g : Int64} {μ : zMu} {c d b : Nat} (hc : c < 12) (hd : d < 12) (hb : b < 3) {ni : Nat} (hni : μ 117 23 = nI ni) (hi20 : ni ≤ 20) : ∀ (n : Nat) (m : Nat) (s : Int32), ni - m = n → m ≤ ni → s = zit (dsi μ c d) 0 m (zit (dsb μ c d) (8 * b) 8 (nI 0)) → zV false E kX8_sharedBy 145 (.inl (some (.int (dshared μ c d b ni))), zm μ g) 202 [.ref (117), .int (nI c), .int (nI d), .int (nI b), .int (s), .int (nI m), .null, .null, .null] [] (zm μ g) 0 0 := by
  intro n
  induction n using Nat.strongRecOn with
  | ind n ih =>
    intro m s hm hle hs 
    refine z_iload rfl dX8_sharedBy_202 ?_
    refine z_aload_n rfl rfl dX8_sharedBy_204 ?_
    refine m_getI kf_X8_103 (zl_a rfl rfl) rfl dX8_sharedBy_205 ?_
    refine m_eqv (w := nI ni) (hni) ?_
    refine z_icmp_ge 257 (by decide) dX8_sharedBy_208 (z_br (zcn (n := ni) (by omega) (m) (by omega)).2.2 (fun h1 => ?_)) (z_brn (zcn (n := ni) (by omega) (m) (by omega)).2.2 (fun h2 => ?_))
    · have hmL : m = ni := by omega
      have hz : zit (dsi μ c d) 0 ni (zit (dsb μ c d) (8 * b) 8 (nI 0)) = s := by rw [hs, hmL]
      refine z_iload rfl dX8_sharedBy_257 ?_
      exact z_iret (by rw [dshared, hz]) rfl (znarI _) (by decide) (by decide) dX8_sharedBy_259
    · refine z_iload rfl dX8_sharedBy_211 ?_
      refine z_aload_n rfl rfl dX8_sharedBy_213 ?_
      refine m_getR (140) kf_X8_77 (zl_a rfl rfl) rfl rfl (by decide) dX8_sharedBy_214 ?_
      refine z_bipush (nI 20) (by decide) dX8_sharedBy_217 ?_
      refine z_iload_n rfl rfl dX8_sharedBy_219 ?_
      refine m_mulN dX8_sharedBy_220 ?_
      refine z_iload rfl dX8_sharedBy_221 ?_
      refine m_addN dX8_sharedBy_223 ?_
      refine m_zald ((20 * c) + m) (zl_a rfl rfl) rfl (by omega) (by decide) dX8_sharedBy_224 ?_
      refine z_if_eq 247 (by decide) dX8_sharedBy_225 (fun h3 => ?_) (fun h4 => ?_)
      · refine z_iconst (nI 0) (by decide) dX8_sharedBy_247 ?_
        refine z_iadd dX8_sharedBy_248 ?_
        refine z_istore (by decide) rfl dX8_sharedBy_249 ?_
        refine z_iinc (nI (m + 1)) rfl (zinc _) (by decide) rfl dX8_sharedBy_251 ?_
        refine z_goto 202 (by decide) dX8_sharedBy_254 ?_
        exact ih (ni - (m + 1)) (by omega) (m + 1) (s + (nI 0)) rfl (by omega) (zst0 hs (by rw [dsi, if_neg (fun q => by first | exact q.1 (by assumption) | exact q.2 (by assumption))]))
      · refine z_aload_n rfl rfl dX8_sharedBy_228 ?_
        refine m_getR (140) kf_X8_77 (zl_a rfl rfl) rfl rfl (by decide) dX8_sharedBy_229 ?_
        refine z_bipush (nI 20) (by decide) dX8_sharedBy_232 ?_
        refine z_iload_n rfl rfl dX8_sharedBy_234 ?_
        refine m_mulN dX8_sharedBy_235 ?_
        refine z_iload rfl dX8_sharedBy_236 ?_
        refine m_addN dX8_sharedBy_238 ?_
        refine m_zald ((20 * d) + m) (zl_a rfl rfl) rfl (by omega) (by decide) dX8_sharedBy_239 ?_
        refine z_if_eq 247 (by decide) dX8_sharedBy_240 (fun h5 => ?_) (fun h6 => ?_)
        · refine z_iconst (nI 0) (by decide) dX8_sharedBy_247 ?_
          refine z_iadd dX8_sharedBy_248 ?_
          refine z_istore (by decide) rfl dX8_sharedBy_249 ?_
          refine z_iinc (nI (m + 1)) rfl (zinc _) (by decide) rfl dX8_sharedBy_251 ?_
          refine z_goto 202 (by decide) dX8_sharedBy_254 ?_
          exact ih (ni - (m + 1)) (by omega) (m + 1) (s + (nI 0)) rfl (by omega) (zst0 hs (by rw [dsi, if_neg (fun q => by first | exact q.1 (by assumption) | exact q.2 (by assumption))]))
        · refine z_iconst (nI 1) (by decide) dX8_sharedBy_243 ?_
          refine z_goto 248 (by decide) dX8_sharedBy_244 ?_
          refine z_iadd dX8_sharedBy_248 ?_
          refine z_istore (by decide) rfl dX8_sharedBy_249 ?_
          refine z_iinc (nI (m + 1)) rfl (zinc _) (by decide) rfl dX8_sharedBy_251 ?_
          refine z_goto 202 (by decide) dX8_sharedBy_254 ?_
          exact ih (ni - (m + 1)) (by omega) (m + 1) (s + (nI 1)) rfl (by omega) (zst0 hs (by rw [dsi, if_pos ⟨by assumption, by assumption⟩]))
set_option maxRecDepth 100000 in
set_option maxHeartbeats 4000000 in
theorem ct_X8_sharedBy {E : Nat × (Nat → Int32)} {μ : Nat → Nat → Int32} {g : Int64} {c d b ni : Nat} (hc : c < 12) (hd : d < 12) (hb : b < 3) (hni : μ 117 23 = nI ni) (hi20 : ni ≤ 20) : zCt E kX8_sharedBy [.ref (117), .int (nI c), .int (nI d), .int (nI b)] (zm μ g) (.inl (some (.int (dshared μ c d b ni))), zm μ g) := by
  refine zCt_of ko_X8_sharedBy (Nat.le_of_ble_eq_true rfl) (zas_r (zas_i (zas_i (zas_i zas_0)))) ⟨Nat.le_refl _, fun h => absurd h (Nat.lt_irrefl _)⟩ (Nat.le_of_ble_eq_true rfl) ?_
  show zV false E kX8_sharedBy 145 _ 0 [.ref (117), .int (nI c), .int (nI d), .int (nI b), .null, .null, .null, .null, .null] [] (zm μ g) 0 0
  refine z_iconst (nI 0) (by decide) dX8_sharedBy_0 ?_
  refine z_istore (by decide) rfl dX8_sharedBy_1 ?_
  refine z_bipush (nI 8) (by decide) dX8_sharedBy_3 ?_
  refine z_iload_n rfl rfl dX8_sharedBy_5 ?_
  refine m_mulN dX8_sharedBy_6 ?_
  refine z_istore (by decide) rfl dX8_sharedBy_7 ?_
  refine lp1_X8_sharedBy hc hd hb ?_ _ 0 _ rfl (Nat.zero_le _) rfl
  refine z_iconst (nI 0) (by decide) dX8_sharedBy_199 ?_
  refine z_istore (by decide) rfl dX8_sharedBy_200 ?_
  exact lp2_X8_sharedBy hc hd hb hni hi20 _ 0 _ rfl (Nat.zero_le _) rfl
set_option maxRecDepth 100000 in
set_option maxHeartbeats 4000000 in
theorem ctx_X8_shared {E : Nat × (Nat → Int32)} {μ : Nat → Nat → Int32} {g : Int64} {nc : Nat} (hnc : μ 117 13 = nI nc) (hn12 : nc ≤ 12) {p q r : Int32} (hbad : ¬ (zrg nc p ∧ zrg nc q ∧ zrg 3 r)) : zCt E kX8_shared [.ref (117), .int (p), .int (q), .int (r)] (zm μ g) (.inl (some (.int (nI 0))), zm ((zu μ 117 0 (nI 1))) g) := by
  refine zCt_of ko_X8_shared (Nat.le_of_ble_eq_true rfl) (zas_r (zas_i (zas_i (zas_i zas_0)))) ⟨Nat.le_refl _, fun h => absurd h (Nat.lt_irrefl _)⟩ (Nat.le_of_ble_eq_true rfl) ?_
  show zV false E kX8_shared 145 _ 0 [.ref (117), .int (p), .int (q), .int (r)] [] (zm μ g) 0 0
  refine z_aload_n rfl rfl dX8_shared_0 ?_
  refine z_aload_n rfl rfl dX8_shared_1 ?_
  refine z_iload_n rfl rfl dX8_shared_2 ?_
  refine z_callV (as := [.int (p)]) (ctg_X8_isChart hnc hn12 (p)) ko_X8_isChart kl_X8_136 rfl (zl_a rfl rfl) rfl rfl ⟨by decide, by decide, by decide, by decide⟩ (Nat.le_of_ble_eq_true rfl) rfl dX8_shared_3 ?_
  refine z_if_eq 28 (by decide) dX8_shared_6 (z_br zb_0 (fun h1 => ?_)) (z_br zb_n (fun h2 => ?_))
  · refine z_iconst (nI 1) (by decide) dX8_shared_28 ?_
    refine m_putI kf_X8_92 (zl_a rfl rfl) rfl dX8_shared_29 ?_
    refine z_aload_n rfl rfl dX8_shared_32 ?_
    refine m_getI kf_X8_92 (zl_a rfl rfl) rfl dX8_shared_33 ?_
    refine m_eqv (w := nI 1) (rfl) ?_
    refine z_if_le 43 (by decide) dX8_shared_36 (fun h => absurd h (by decide)) (fun _ => ?_)
    refine z_iconst (nI 0) (by decide) dX8_shared_39 ?_
    refine z_goto 50 (by decide) dX8_shared_40 ?_
    exact z_iret (rfl) rfl (znarI _) (by decide) (by decide) dX8_shared_50
  · refine z_aload_n rfl rfl dX8_shared_9 ?_
    refine z_iload_n rfl rfl dX8_shared_10 ?_
    refine z_callV (as := [.int (q)]) (ctg_X8_isChart hnc hn12 (q)) ko_X8_isChart kl_X8_136 rfl (zl_a rfl rfl) rfl rfl ⟨by decide, by decide, by decide, by decide⟩ (Nat.le_of_ble_eq_true rfl) rfl dX8_shared_11 ?_
    refine z_if_eq 28 (by decide) dX8_shared_14 (z_br zb_0 (fun h3 => ?_)) (z_br zb_n (fun h4 => ?_))
    · refine z_iconst (nI 1) (by decide) dX8_shared_28 ?_
      refine m_putI kf_X8_92 (zl_a rfl rfl) rfl dX8_shared_29 ?_
      refine z_aload_n rfl rfl dX8_shared_32 ?_
      refine m_getI kf_X8_92 (zl_a rfl rfl) rfl dX8_shared_33 ?_
      refine m_eqv (w := nI 1) (rfl) ?_
      refine z_if_le 43 (by decide) dX8_shared_36 (fun h => absurd h (by decide)) (fun _ => ?_)
      refine z_iconst (nI 0) (by decide) dX8_shared_39 ?_
      refine z_goto 50 (by decide) dX8_shared_40 ?_
      exact z_iret (rfl) rfl (znarI _) (by decide) (by decide) dX8_shared_50
    · refine z_iload_n rfl rfl dX8_shared_17 ?_
      refine z_callS (as := [.int (r)]) (ctg_X8_isBasin (r)) ko_X8_isBasin kl_X8_152 rfl rfl ⟨by decide, by decide, by decide, by decide⟩ (Nat.le_of_ble_eq_true rfl) rfl dX8_shared_18 ?_
      refine z_if_eq 28 (by decide) dX8_shared_21 (z_br zb_0 (fun h5 => ?_)) (z_br zb_n (fun h6 => ?_))
      · refine z_iconst (nI 1) (by decide) dX8_shared_28 ?_
        refine m_putI kf_X8_92 (zl_a rfl rfl) rfl dX8_shared_29 ?_
        refine z_aload_n rfl rfl dX8_shared_32 ?_
        refine m_getI kf_X8_92 (zl_a rfl rfl) rfl dX8_shared_33 ?_
        refine m_eqv (w := nI 1) (rfl) ?_
        refine z_if_le 43 (by decide) dX8_shared_36 (fun h => absurd h (by decide)) (fun _ => ?_)
        refine z_iconst (nI 0) (by decide) dX8_shared_39 ?_
        refine z_goto 50 (by decide) dX8_shared_40 ?_
        exact z_iret (rfl) rfl (znarI _) (by decide) (by decide) dX8_shared_50
      · exact absurd (by repeat' (first | assumption | apply And.intro)) hbad
set_option maxRecDepth 100000 in
set_option maxHeartbeats 4000000 in
theorem ct_X8_shared {E : Nat × (Nat → Int32)} {μ : Nat → Nat → Int32} {g : Int64} {nc : Nat} (hnc : μ 117 13 = nI nc) (hn12 : nc ≤ 12) {ni : Nat} (hni : μ 117 23 = nI ni) (hi20 : ni ≤ 20) {c d b : Nat} (hc : c < nc) (hd : d < nc) (hb : b < 3)  : zCt E kX8_shared [.ref (117), .int (nI c), .int (nI d), .int (nI b)] (zm μ g) ((.inl (some (.int (dshared (zu μ 117 0 (nI 0)) c d b ni))), zm (zu μ 117 0 (nI 0)) g) : zO) := by
  refine zCt_of ko_X8_shared (Nat.le_of_ble_eq_true rfl) (zas_r (zas_i (zas_i (zas_i zas_0)))) ⟨Nat.le_refl _, fun h => absurd h (Nat.lt_irrefl _)⟩ (Nat.le_of_ble_eq_true rfl) ?_
  show zV false E kX8_shared 145 _ 0 [.ref (117), .int (nI c), .int (nI d), .int (nI b)] [] (zm μ g) 0 0
  refine z_aload_n rfl rfl dX8_shared_0 ?_
  refine z_aload_n rfl rfl dX8_shared_1 ?_
  refine z_iload_n rfl rfl dX8_shared_2 ?_
  refine z_callV (as := [.int (nI c)]) (ct_X8_isChart hnc hn12 (j := c) (by omega)) ko_X8_isChart kl_X8_136 rfl (zl_a rfl rfl) rfl rfl ⟨by decide, by decide, by decide, by decide⟩ (Nat.le_of_ble_eq_true rfl) rfl dX8_shared_3 ?_
  refine z_if_eq 28 (by decide) dX8_shared_6 (fun h => absurd h (by decide)) (fun _ => ?_)
  refine z_aload_n rfl rfl dX8_shared_9 ?_
  refine z_iload_n rfl rfl dX8_shared_10 ?_
  refine z_callV (as := [.int (nI d)]) (ct_X8_isChart hnc hn12 (j := d) (by omega)) ko_X8_isChart kl_X8_136 rfl (zl_a rfl rfl) rfl rfl ⟨by decide, by decide, by decide, by decide⟩ (Nat.le_of_ble_eq_true rfl) rfl dX8_shared_11 ?_
  refine z_if_eq 28 (by decide) dX8_shared_14 (fun h => absurd h (by decide)) (fun _ => ?_)
  refine z_iload_n rfl rfl dX8_shared_17 ?_
  refine z_callS (as := [.int (nI b)]) (ct_X8_isBasin (j := b) (by omega)) ko_X8_isBasin kl_X8_152 rfl rfl ⟨by decide, by decide, by decide, by decide⟩ (Nat.le_of_ble_eq_true rfl) rfl dX8_shared_18 ?_
  refine z_if_eq 28 (by decide) dX8_shared_21 (fun h => absurd h (by decide)) (fun _ => ?_)
  refine z_iconst (nI 0) (by decide) dX8_shared_24 ?_
  refine z_goto 29 (by decide) dX8_shared_25 ?_
  refine m_putI kf_X8_92 (zl_a rfl rfl) rfl dX8_shared_29 ?_
  refine z_aload_n rfl rfl dX8_shared_32 ?_
  refine m_getI kf_X8_92 (zl_a rfl rfl) rfl dX8_shared_33 ?_
  refine m_eqv (w := nI 0) (rfl) ?_
  refine z_if_le 43 (by decide) dX8_shared_36 (fun _ => ?_) (fun h => absurd h (by decide))
  refine z_aload_n rfl rfl dX8_shared_43 ?_
  refine z_iload_n rfl rfl dX8_shared_44 ?_
  refine z_iload_n rfl rfl dX8_shared_45 ?_
  refine z_iload_n rfl rfl dX8_shared_46 ?_
  refine z_callV (as := [.int (nI c), .int (nI d), .int (nI b)]) (ct_X8_sharedBy (μ := zu μ (117) 0 (nI 0)) (c := c) (d := d) (b := b) (ni := ni) (by omega) (by omega) (by omega) hni hi20) ko_X8_sharedBy kl_X8_176 rfl (zl_a rfl rfl) rfl rfl ⟨by decide, by decide, by decide, by decide⟩ (Nat.le_of_ble_eq_true rfl) rfl dX8_shared_47 ?_
  exact z_iret (rfl) rfl (znarI _) (by decide) (by decide) dX8_shared_50
set_option maxRecDepth 100000 in
set_option maxHeartbeats 4000000 in
theorem ctx_X8_kin {E : Nat × (Nat → Int32)} {μ : Nat → Nat → Int32} {g : Int64} {nc : Nat} (hnc : μ 117 13 = nI nc) (hn12 : nc ≤ 12) {p r : Int32} (hbad : ¬ (zrg nc p ∧ zrg 3 r)) : zCt E kX8_kin [.ref (117), .int (p), .int (r)] (zm μ g) (.inl (some (.int (nI 0))), zm ((zu μ 117 0 (nI 1))) g) := by
  refine zCt_of ko_X8_kin (Nat.le_of_ble_eq_true rfl) (zas_r (zas_i (zas_i zas_0))) ⟨Nat.le_refl _, fun h => absurd h (Nat.lt_irrefl _)⟩ (Nat.le_of_ble_eq_true rfl) ?_
  show zV false E kX8_kin 145 _ 0 [.ref (117), .int (p), .int (r), .null, .null, .null, .null] [] (zm μ g) 0 0
  refine z_aload_n rfl rfl dX8_kin_0 ?_
  refine z_aload_n rfl rfl dX8_kin_1 ?_
  refine z_iload_n rfl rfl dX8_kin_2 ?_
  refine z_callV (as := [.int (p)]) (ctg_X8_isChart hnc hn12 (p)) ko_X8_isChart kl_X8_136 rfl (zl_a rfl rfl) rfl rfl ⟨by decide, by decide, by decide, by decide⟩ (Nat.le_of_ble_eq_true rfl) rfl dX8_kin_3 ?_
  refine z_if_eq 20 (by decide) dX8_kin_6 (z_br zb_0 (fun h1 => ?_)) (z_br zb_n (fun h2 => ?_))
  · refine z_iconst (nI 1) (by decide) dX8_kin_20 ?_
    refine m_putI kf_X8_92 (zl_a rfl rfl) rfl dX8_kin_21 ?_
    refine z_iconst (-1) (by decide) dX8_kin_24 ?_
    refine z_istore_n rfl (by decide) rfl dX8_kin_25 ?_
    refine z_iconst (nI 0) (by decide) dX8_kin_26 ?_
    refine z_istore (by decide) rfl dX8_kin_27 ?_
    refine z_iconst (nI 0) (by decide) dX8_kin_29 ?_
    refine z_istore (by decide) rfl dX8_kin_30 ?_
    refine z_iload rfl dX8_kin_32 ?_
    refine z_iload_n rfl rfl dX8_kin_34 ?_
    refine z_icmp_ge 91 (by decide) dX8_kin_35 (fun h3 => ?_) (fun h4 => ?_)
    · refine z_aload_n rfl rfl dX8_kin_91 ?_
      refine m_getI kf_X8_92 (zl_a rfl rfl) rfl dX8_kin_92 ?_
      refine m_eqv (w := nI 1) (rfl) ?_
      refine z_if_le 102 (by decide) dX8_kin_95 (fun h => absurd h (by decide)) (fun _ => ?_)
      refine z_iconst (nI 0) (by decide) dX8_kin_98 ?_
      refine z_goto 103 (by decide) dX8_kin_99 ?_
      exact z_iret (rfl) rfl (znarI _) (by decide) (by decide) dX8_kin_103
    · refine z_aload_n rfl rfl dX8_kin_38 ?_
      refine m_getI kf_X8_92 (zl_a rfl rfl) rfl dX8_kin_39 ?_
      refine m_eqv (w := nI 1) (rfl) ?_
      refine z_if_ne 91 (by decide) dX8_kin_42 (fun _ => ?_) (fun h => absurd h (by decide))
      refine z_aload_n rfl rfl dX8_kin_91 ?_
      refine m_getI kf_X8_92 (zl_a rfl rfl) rfl dX8_kin_92 ?_
      refine m_eqv (w := nI 1) (rfl) ?_
      refine z_if_le 102 (by decide) dX8_kin_95 (fun h => absurd h (by decide)) (fun _ => ?_)
      refine z_iconst (nI 0) (by decide) dX8_kin_98 ?_
      refine z_goto 103 (by decide) dX8_kin_99 ?_
      exact z_iret (rfl) rfl (znarI _) (by decide) (by decide) dX8_kin_103
  · refine z_iload_n rfl rfl dX8_kin_9 ?_
    refine z_callS (as := [.int (r)]) (ctg_X8_isBasin (r)) ko_X8_isBasin kl_X8_152 rfl rfl ⟨by decide, by decide, by decide, by decide⟩ (Nat.le_of_ble_eq_true rfl) rfl dX8_kin_10 ?_
    refine z_if_eq 20 (by decide) dX8_kin_13 (z_br zb_0 (fun h5 => ?_)) (z_br zb_n (fun h6 => ?_))
    · refine z_iconst (nI 1) (by decide) dX8_kin_20 ?_
      refine m_putI kf_X8_92 (zl_a rfl rfl) rfl dX8_kin_21 ?_
      refine z_iconst (-1) (by decide) dX8_kin_24 ?_
      refine z_istore_n rfl (by decide) rfl dX8_kin_25 ?_
      refine z_iconst (nI 0) (by decide) dX8_kin_26 ?_
      refine z_istore (by decide) rfl dX8_kin_27 ?_
      refine z_iconst (nI 0) (by decide) dX8_kin_29 ?_
      refine z_istore (by decide) rfl dX8_kin_30 ?_
      refine z_iload rfl dX8_kin_32 ?_
      refine z_iload_n rfl rfl dX8_kin_34 ?_
      refine z_icmp_ge 91 (by decide) dX8_kin_35 (fun h7 => ?_) (fun h8 => ?_)
      · refine z_aload_n rfl rfl dX8_kin_91 ?_
        refine m_getI kf_X8_92 (zl_a rfl rfl) rfl dX8_kin_92 ?_
        refine m_eqv (w := nI 1) (rfl) ?_
        refine z_if_le 102 (by decide) dX8_kin_95 (fun h => absurd h (by decide)) (fun _ => ?_)
        refine z_iconst (nI 0) (by decide) dX8_kin_98 ?_
        refine z_goto 103 (by decide) dX8_kin_99 ?_
        exact z_iret (rfl) rfl (znarI _) (by decide) (by decide) dX8_kin_103
      · refine z_aload_n rfl rfl dX8_kin_38 ?_
        refine m_getI kf_X8_92 (zl_a rfl rfl) rfl dX8_kin_39 ?_
        refine m_eqv (w := nI 1) (rfl) ?_
        refine z_if_ne 91 (by decide) dX8_kin_42 (fun _ => ?_) (fun h => absurd h (by decide))
        refine z_aload_n rfl rfl dX8_kin_91 ?_
        refine m_getI kf_X8_92 (zl_a rfl rfl) rfl dX8_kin_92 ?_
        refine m_eqv (w := nI 1) (rfl) ?_
        refine z_if_le 102 (by decide) dX8_kin_95 (fun h => absurd h (by decide)) (fun _ => ?_)
        refine z_iconst (nI 0) (by decide) dX8_kin_98 ?_
        refine z_goto 103 (by decide) dX8_kin_99 ?_
        exact z_iret (rfl) rfl (znarI _) (by decide) (by decide) dX8_kin_103
    · exact absurd (by repeat' (first | assumption | apply And.intro)) hbad
set_option maxRecDepth 100000 in
set_option maxHeartbeats 4000000 in
theorem lp_X8_kin {E : Nat × (Nat → Int32)} {g : Int64} {μ : zMu} {c b ni : Nat} (hc : c < 12) (hb : b < 3) (hni : μ 117 23 = nI ni) (hi20 : ni ≤ 20) (hth : μ 117 0 = nI 0) : ∀ (n : Nat) (m : Nat) (x : Int32) (y : Int32), c - m = n → m ≤ c → (x, y) = zit (dki μ c b ni) 0 m (-1, nI 0) → zV false E kX8_kin 145 (.inl (some (.int (zit (dki μ c b ni) 0 c (-1, nI 0)).1)), zm μ g) 32 [.ref (117), .int (nI c), .int (nI b), .int (x), .int (y), .int (nI m), .null] [] (zm μ g) 0 0 := by
  intro n
  induction n using Nat.strongRecOn with
  | ind n ih =>
    intro m x y hm hle hs 
    refine z_iload rfl dX8_kin_32 ?_
    refine z_iload_n rfl rfl dX8_kin_34 ?_
    refine z_icmp_ge 91 (by decide) dX8_kin_35 (z_br (zcn (n := c) (by omega) (m) (by omega)).2.2 (fun h1 => ?_)) (z_brn (zcn (n := c) (by omega) (m) (by omega)).2.2 (fun h2 => ?_))
    · have hmL : m = c := by omega
      have hz : zit (dki μ c b ni) 0 c (-1, nI 0) = (x, y) := by rw [hs, hmL]
      refine z_aload_n rfl rfl dX8_kin_91 ?_
      refine m_getI kf_X8_92 (zl_a rfl rfl) rfl dX8_kin_92 ?_
      refine m_eqv (w := nI 0) (hth) ?_
      refine z_if_le 102 (by decide) dX8_kin_95 (fun _ => ?_) (fun h => absurd h (by decide))
      refine z_iload_n rfl rfl dX8_kin_102 ?_
      exact z_iret (by rw [hz]) rfl (znarI _) (by decide) (by decide) dX8_kin_103
    · refine z_aload_n rfl rfl dX8_kin_38 ?_
      refine m_getI kf_X8_92 (zl_a rfl rfl) rfl dX8_kin_39 ?_
      refine m_eqv (w := nI 0) (hth) ?_
      refine z_if_ne 91 (by decide) dX8_kin_42 (fun h => absurd h (by decide)) (fun _ => ?_)
      refine z_aload_n rfl rfl dX8_kin_45 ?_
      refine z_iload_n rfl rfl dX8_kin_46 ?_
      refine z_iload rfl dX8_kin_47 ?_
      refine z_iload_n rfl rfl dX8_kin_49 ?_
      refine z_callV (as := [.int (nI c), .int (nI m), .int (nI b)]) (ct_X8_sharedBy (μ := μ) (c := c) (d := m) (b := b) (ni := ni) (by omega) (by omega) (by omega) hni hi20) ko_X8_sharedBy kl_X8_176 rfl (zl_a rfl rfl) rfl rfl ⟨by decide, by decide, by decide, by decide⟩ (Nat.le_of_ble_eq_true rfl) rfl dX8_kin_50 ?_
      refine z_istore (by decide) rfl dX8_kin_53 ?_
      refine z_iload rfl dX8_kin_55 ?_
      refine z_iload rfl dX8_kin_57 ?_
      refine z_icmp_le 67 (by decide) dX8_kin_59 (fun h3 => ?_) (fun h4 => ?_)
      · refine z_iload_n rfl rfl dX8_kin_67 ?_
        refine z_istore_n rfl (by decide) rfl dX8_kin_68 ?_
        refine z_iload rfl dX8_kin_69 ?_
        refine z_iload rfl dX8_kin_71 ?_
        refine z_icmp_le 81 (by decide) dX8_kin_73 (fun h5 => ?_) (fun h6 => ?_)
        · refine z_iload rfl dX8_kin_81 ?_
          refine z_istore (by decide) rfl dX8_kin_83 ?_
          refine z_iinc (nI (m + 1)) rfl (zinc _) (by decide) rfl dX8_kin_85 ?_
          refine z_goto 32 (by decide) dX8_kin_88 ?_
          refine z_fgt [.ref (117), .int (nI c), .int (nI b), .int (x), .int (y), .int (nI (m + 1)), .null] ⟨Or.inl rfl, ⟨Or.inl rfl, ⟨Or.inl rfl, ⟨Or.inl rfl, ⟨Or.inl rfl, ⟨Or.inl rfl, ⟨Or.inr rfl, trivial⟩⟩⟩⟩⟩⟩⟩ ?_
          exact ih (c - (m + 1)) (by omega) (m + 1) (x) (y) rfl (by omega) (zst0 hs (by rw [dki, if_pos (by assumption), if_pos (by assumption)]))
        · refine z_iload rfl dX8_kin_76 ?_
          refine z_goto 83 (by decide) dX8_kin_78 ?_
          refine z_istore (by decide) rfl dX8_kin_83 ?_
          refine z_iinc (nI (m + 1)) rfl (zinc _) (by decide) rfl dX8_kin_85 ?_
          refine z_goto 32 (by decide) dX8_kin_88 ?_
          refine z_fgt [.ref (117), .int (nI c), .int (nI b), .int (x), .int (dshared μ c m b ni), .int (nI (m + 1)), .null] ⟨Or.inl rfl, ⟨Or.inl rfl, ⟨Or.inl rfl, ⟨Or.inl rfl, ⟨Or.inl rfl, ⟨Or.inl rfl, ⟨Or.inr rfl, trivial⟩⟩⟩⟩⟩⟩⟩ ?_
          exact ih (c - (m + 1)) (by omega) (m + 1) (x) (dshared μ c m b ni) rfl (by omega) (zst0 hs (by contradiction))
      · refine z_iload rfl dX8_kin_62 ?_
        refine z_goto 68 (by decide) dX8_kin_64 ?_
        refine z_istore_n rfl (by decide) rfl dX8_kin_68 ?_
        refine z_iload rfl dX8_kin_69 ?_
        refine z_iload rfl dX8_kin_71 ?_
        refine z_icmp_le 81 (by decide) dX8_kin_73 (fun h7 => ?_) (fun h8 => ?_)
        · refine z_iload rfl dX8_kin_81 ?_
          refine z_istore (by decide) rfl dX8_kin_83 ?_
          refine z_iinc (nI (m + 1)) rfl (zinc _) (by decide) rfl dX8_kin_85 ?_
          refine z_goto 32 (by decide) dX8_kin_88 ?_
          refine z_fgt [.ref (117), .int (nI c), .int (nI b), .int (nI m), .int (y), .int (nI (m + 1)), .null] ⟨Or.inl rfl, ⟨Or.inl rfl, ⟨Or.inl rfl, ⟨Or.inl rfl, ⟨Or.inl rfl, ⟨Or.inl rfl, ⟨Or.inr rfl, trivial⟩⟩⟩⟩⟩⟩⟩ ?_
          exact ih (c - (m + 1)) (by omega) (m + 1) (nI m) (y) rfl (by omega) (zst0 hs (by contradiction))
        · refine z_iload rfl dX8_kin_76 ?_
          refine z_goto 83 (by decide) dX8_kin_78 ?_
          refine z_istore (by decide) rfl dX8_kin_83 ?_
          refine z_iinc (nI (m + 1)) rfl (zinc _) (by decide) rfl dX8_kin_85 ?_
          refine z_goto 32 (by decide) dX8_kin_88 ?_
          refine z_fgt [.ref (117), .int (nI c), .int (nI b), .int (nI m), .int (dshared μ c m b ni), .int (nI (m + 1)), .null] ⟨Or.inl rfl, ⟨Or.inl rfl, ⟨Or.inl rfl, ⟨Or.inl rfl, ⟨Or.inl rfl, ⟨Or.inl rfl, ⟨Or.inr rfl, trivial⟩⟩⟩⟩⟩⟩⟩ ?_
          exact ih (c - (m + 1)) (by omega) (m + 1) (nI m) (dshared μ c m b ni) rfl (by omega) (zst0 hs (by rw [dki, if_neg (by assumption), if_neg (by assumption)]))
set_option maxRecDepth 100000 in
set_option maxHeartbeats 4000000 in
theorem ct_X8_kin {E : Nat × (Nat → Int32)} {μ : Nat → Nat → Int32} {g : Int64} {nc : Nat} (hnc : μ 117 13 = nI nc) (hn12 : nc ≤ 12) {ni : Nat} (hni : μ 117 23 = nI ni) (hi20 : ni ≤ 20) {c b : Nat} (hc : c < nc) (hb : b < 3)  : zCt E kX8_kin [.ref (117), .int (nI c), .int (nI b)] (zm μ g) ((.inl (some (.int ((zit (dki (zu μ 117 0 (nI 0)) c b ni) 0 c (-1, nI 0)).1))), zm (zu μ 117 0 (nI 0)) g) : zO) := by
  refine zCt_of ko_X8_kin (Nat.le_of_ble_eq_true rfl) (zas_r (zas_i (zas_i zas_0))) ⟨Nat.le_refl _, fun h => absurd h (Nat.lt_irrefl _)⟩ (Nat.le_of_ble_eq_true rfl) ?_
  show zV false E kX8_kin 145 _ 0 [.ref (117), .int (nI c), .int (nI b), .null, .null, .null, .null] [] (zm μ g) 0 0
  refine z_aload_n rfl rfl dX8_kin_0 ?_
  refine z_aload_n rfl rfl dX8_kin_1 ?_
  refine z_iload_n rfl rfl dX8_kin_2 ?_
  refine z_callV (as := [.int (nI c)]) (ct_X8_isChart hnc hn12 (j := c) (by omega)) ko_X8_isChart kl_X8_136 rfl (zl_a rfl rfl) rfl rfl ⟨by decide, by decide, by decide, by decide⟩ (Nat.le_of_ble_eq_true rfl) rfl dX8_kin_3 ?_
  refine z_if_eq 20 (by decide) dX8_kin_6 (fun h => absurd h (by decide)) (fun _ => ?_)
  refine z_iload_n rfl rfl dX8_kin_9 ?_
  refine z_callS (as := [.int (nI b)]) (ct_X8_isBasin (j := b) (by omega)) ko_X8_isBasin kl_X8_152 rfl rfl ⟨by decide, by decide, by decide, by decide⟩ (Nat.le_of_ble_eq_true rfl) rfl dX8_kin_10 ?_
  refine z_if_eq 20 (by decide) dX8_kin_13 (fun h => absurd h (by decide)) (fun _ => ?_)
  refine z_iconst (nI 0) (by decide) dX8_kin_16 ?_
  refine z_goto 21 (by decide) dX8_kin_17 ?_
  refine m_putI kf_X8_92 (zl_a rfl rfl) rfl dX8_kin_21 ?_
  refine z_iconst (-1) (by decide) dX8_kin_24 ?_
  refine z_istore_n rfl (by decide) rfl dX8_kin_25 ?_
  refine z_iconst (nI 0) (by decide) dX8_kin_26 ?_
  refine z_istore (by decide) rfl dX8_kin_27 ?_
  refine z_iconst (nI 0) (by decide) dX8_kin_29 ?_
  refine z_istore (by decide) rfl dX8_kin_30 ?_
  exact lp_X8_kin (μ := (zu μ 117 0 (nI 0))) (c := c) (b := b) (by omega) (by omega) hni hi20 rfl _ 0 _ _ rfl (Nat.zero_le _) rfl
set_option maxRecDepth 100000 in
set_option maxHeartbeats 4000000 in
theorem ctx_X8_date {E : Nat × (Nat → Int32)} {μ : Nat → Nat → Int32} {g : Int64} {nc : Nat} (hnc : μ 117 13 = nI nc) (hn12 : nc ≤ 12) {p r : Int32} (hbad : ¬ (zrg nc p ∧ zrg 3 r)) : zCt E kX8_date [.ref (117), .int (p), .int (r)] (zm μ g) (.inl (some (.int (nI 0))), zm ((zu μ 117 0 (nI 1))) g) := by
  refine zCt_of ko_X8_date (Nat.le_of_ble_eq_true rfl) (zas_r (zas_i (zas_i zas_0))) ⟨Nat.le_refl _, fun h => absurd h (Nat.lt_irrefl _)⟩ (Nat.le_of_ble_eq_true rfl) ?_
  show zV false E kX8_date 145 _ 0 [.ref (117), .int (p), .int (r), .null, .null, .null] [] (zm μ g) 0 0
  refine z_aload_n rfl rfl dX8_date_0 ?_
  refine z_aload_n rfl rfl dX8_date_1 ?_
  refine z_iload_n rfl rfl dX8_date_2 ?_
  refine z_callV (as := [.int (p)]) (ctg_X8_isChart hnc hn12 (p)) ko_X8_isChart kl_X8_136 rfl (zl_a rfl rfl) rfl rfl ⟨by decide, by decide, by decide, by decide⟩ (Nat.le_of_ble_eq_true rfl) rfl dX8_date_3 ?_
  refine z_if_eq 20 (by decide) dX8_date_6 (z_br zb_0 (fun h1 => ?_)) (z_br zb_n (fun h2 => ?_))
  · refine z_iconst (nI 1) (by decide) dX8_date_20 ?_
    refine m_putI kf_X8_92 (zl_a rfl rfl) rfl dX8_date_21 ?_
    refine z_iconst (-1) (by decide) dX8_date_24 ?_
    refine z_istore_n rfl (by decide) rfl dX8_date_25 ?_
    refine z_bipush (nI 8) (by decide) dX8_date_26 ?_
    refine z_iload_n rfl rfl dX8_date_28 ?_
    refine z_imul dX8_date_29 ?_
    refine z_istore (by decide) rfl dX8_date_30 ?_
    refine z_iload rfl dX8_date_32 ?_
    refine z_bipush (nI 8) (by decide) dX8_date_34 ?_
    refine z_iload_n rfl rfl dX8_date_36 ?_
    refine z_imul dX8_date_37 ?_
    refine z_bipush (nI 8) (by decide) dX8_date_38 ?_
    refine z_iadd dX8_date_40 ?_
    refine z_icmp_ge 114 (by decide) dX8_date_41 (fun h3 => ?_) (fun h4 => ?_)
    · refine z_aload_n rfl rfl dX8_date_114 ?_
      refine m_getI kf_X8_92 (zl_a rfl rfl) rfl dX8_date_115 ?_
      refine m_eqv (w := nI 1) (rfl) ?_
      refine z_if_le 125 (by decide) dX8_date_118 (fun h => absurd h (by decide)) (fun _ => ?_)
      refine z_iconst (nI 0) (by decide) dX8_date_121 ?_
      refine z_goto 126 (by decide) dX8_date_122 ?_
      exact z_iret (rfl) rfl (znarI _) (by decide) (by decide) dX8_date_126
    · refine z_aload_n rfl rfl dX8_date_44 ?_
      refine m_getI kf_X8_92 (zl_a rfl rfl) rfl dX8_date_45 ?_
      refine m_eqv (w := nI 1) (rfl) ?_
      refine z_if_ne 114 (by decide) dX8_date_48 (fun _ => ?_) (fun h => absurd h (by decide))
      refine z_aload_n rfl rfl dX8_date_114 ?_
      refine m_getI kf_X8_92 (zl_a rfl rfl) rfl dX8_date_115 ?_
      refine m_eqv (w := nI 1) (rfl) ?_
      refine z_if_le 125 (by decide) dX8_date_118 (fun h => absurd h (by decide)) (fun _ => ?_)
      refine z_iconst (nI 0) (by decide) dX8_date_121 ?_
      refine z_goto 126 (by decide) dX8_date_122 ?_
      exact z_iret (rfl) rfl (znarI _) (by decide) (by decide) dX8_date_126
  · refine z_iload_n rfl rfl dX8_date_9 ?_
    refine z_callS (as := [.int (r)]) (ctg_X8_isBasin (r)) ko_X8_isBasin kl_X8_152 rfl rfl ⟨by decide, by decide, by decide, by decide⟩ (Nat.le_of_ble_eq_true rfl) rfl dX8_date_10 ?_
    refine z_if_eq 20 (by decide) dX8_date_13 (z_br zb_0 (fun h5 => ?_)) (z_br zb_n (fun h6 => ?_))
    · refine z_iconst (nI 1) (by decide) dX8_date_20 ?_
      refine m_putI kf_X8_92 (zl_a rfl rfl) rfl dX8_date_21 ?_
      refine z_iconst (-1) (by decide) dX8_date_24 ?_
      refine z_istore_n rfl (by decide) rfl dX8_date_25 ?_
      refine z_bipush (nI 8) (by decide) dX8_date_26 ?_
      refine z_iload_n rfl rfl dX8_date_28 ?_
      refine z_imul dX8_date_29 ?_
      refine z_istore (by decide) rfl dX8_date_30 ?_
      refine z_iload rfl dX8_date_32 ?_
      refine z_bipush (nI 8) (by decide) dX8_date_34 ?_
      refine z_iload_n rfl rfl dX8_date_36 ?_
      refine z_imul dX8_date_37 ?_
      refine z_bipush (nI 8) (by decide) dX8_date_38 ?_
      refine z_iadd dX8_date_40 ?_
      refine z_icmp_ge 114 (by decide) dX8_date_41 (fun h7 => ?_) (fun h8 => ?_)
      · refine z_aload_n rfl rfl dX8_date_114 ?_
        refine m_getI kf_X8_92 (zl_a rfl rfl) rfl dX8_date_115 ?_
        refine m_eqv (w := nI 1) (rfl) ?_
        refine z_if_le 125 (by decide) dX8_date_118 (fun h => absurd h (by decide)) (fun _ => ?_)
        refine z_iconst (nI 0) (by decide) dX8_date_121 ?_
        refine z_goto 126 (by decide) dX8_date_122 ?_
        exact z_iret (rfl) rfl (znarI _) (by decide) (by decide) dX8_date_126
      · refine z_aload_n rfl rfl dX8_date_44 ?_
        refine m_getI kf_X8_92 (zl_a rfl rfl) rfl dX8_date_45 ?_
        refine m_eqv (w := nI 1) (rfl) ?_
        refine z_if_ne 114 (by decide) dX8_date_48 (fun _ => ?_) (fun h => absurd h (by decide))
        refine z_aload_n rfl rfl dX8_date_114 ?_
        refine m_getI kf_X8_92 (zl_a rfl rfl) rfl dX8_date_115 ?_
        refine m_eqv (w := nI 1) (rfl) ?_
        refine z_if_le 125 (by decide) dX8_date_118 (fun h => absurd h (by decide)) (fun _ => ?_)
        refine z_iconst (nI 0) (by decide) dX8_date_121 ?_
        refine z_goto 126 (by decide) dX8_date_122 ?_
        exact z_iret (rfl) rfl (znarI _) (by decide) (by decide) dX8_date_126
    · exact absurd (by repeat' (first | assumption | apply And.intro)) hbad
set_option maxRecDepth 100000 in
set_option maxHeartbeats 4000000 in
theorem lp_X8_date {E : Nat × (Nat → Int32)} {g : Int64} {μ : zMu} {c b : Nat} (hc : c < 12) (hb : b < 3) (hth : μ 117 0 = nI 0) : ∀ (n : Nat) (m : Nat) (x : Int32), 8 - m = n → m ≤ 8 → x = zit (dda μ c) ((8 * b)) m (-1) → zV false E kX8_date 145 (.inl (some (.int (zit (dda μ c) (8 * b) 8 (-1)))), zm μ g) 32 [.ref (117), .int (nI c), .int (nI b), .int (x), .int (nI (((8 * b)) + m)), .null] [] (zm μ g) 0 0 := by
  intro n
  induction n using Nat.strongRecOn with
  | ind n ih =>
    intro m x hm hle hs 
    refine z_iload rfl dX8_date_32 ?_
    refine z_bipush (nI 8) (by decide) dX8_date_34 ?_
    refine z_iload_n rfl rfl dX8_date_36 ?_
    refine m_mulN dX8_date_37 ?_
    refine z_bipush (nI 8) (by decide) dX8_date_38 ?_
    refine m_addN dX8_date_40 ?_
    refine z_icmp_ge 114 (by decide) dX8_date_41 (z_br (zcn (n := (8 * b) + 8) (by omega) (((8 * b)) + m) (by omega)).2.2 (fun h1 => ?_)) (z_brn (zcn (n := (8 * b) + 8) (by omega) (((8 * b)) + m) (by omega)).2.2 (fun h2 => ?_))
    · have hmL : m = 8 := by omega
      have hz : zit (dda μ c) ((8 * b)) 8 (-1) = x := by rw [hs, hmL]
      refine z_aload_n rfl rfl dX8_date_114 ?_
      refine m_getI kf_X8_92 (zl_a rfl rfl) rfl dX8_date_115 ?_
      refine m_eqv (w := nI 0) (hth) ?_
      refine z_if_le 125 (by decide) dX8_date_118 (fun _ => ?_) (fun h => absurd h (by decide))
      refine z_iload_n rfl rfl dX8_date_125 ?_
      exact z_iret (by rw [hz]) rfl (znarI _) (by decide) (by decide) dX8_date_126
    · refine z_aload_n rfl rfl dX8_date_44 ?_
      refine m_getI kf_X8_92 (zl_a rfl rfl) rfl dX8_date_45 ?_
      refine m_eqv (w := nI 0) (hth) ?_
      refine z_if_ne 114 (by decide) dX8_date_48 (fun h => absurd h (by decide)) (fun _ => ?_)
      refine z_aload_n rfl rfl dX8_date_51 ?_
      refine m_getR (133) kf_X8_56 (zl_a rfl rfl) rfl rfl (by decide) dX8_date_52 ?_
      refine z_bipush (nI 24) (by decide) dX8_date_55 ?_
      refine z_iload_n rfl rfl dX8_date_57 ?_
      refine m_mulN dX8_date_58 ?_
      refine z_iload rfl dX8_date_59 ?_
      refine m_addN dX8_date_61 ?_
      refine m_iald ((24 * c) + (((8 * b)) + m)) (zl_a rfl rfl) rfl (by omega) (by decide) dX8_date_62 ?_
      refine z_aload_n rfl rfl dX8_date_63 ?_
      refine m_getR (120) kf_X8_16 (zl_a rfl rfl) rfl rfl (by decide) dX8_date_64 ?_
      refine z_iload rfl dX8_date_67 ?_
      refine m_iald (((8 * b)) + m) (zl_a rfl rfl) rfl (by omega) (by decide) dX8_date_69 ?_
      refine z_icmp_ne 77 (by decide) dX8_date_70 (fun h3 => ?_) (fun h4 => ?_)
      · refine z_iconst (nI 0) (by decide) dX8_date_77 ?_
        refine z_istore (by decide) rfl dX8_date_78 ?_
        refine z_iload rfl dX8_date_80 ?_
        refine z_if_eq 106 (by decide) dX8_date_82 (fun _ => ?_) (fun h => absurd h (by decide))
        refine z_iload_n rfl rfl dX8_date_106 ?_
        refine z_istore_n rfl (by decide) rfl dX8_date_107 ?_
        refine z_iinc (nI (((8 * b)) + m + 1)) rfl (zinc _) (by decide) rfl dX8_date_108 ?_
        refine z_goto 32 (by decide) dX8_date_111 ?_
        refine z_fgt [.ref (117), .int (nI c), .int (nI b), .int (x), .int (nI (((8 * b)) + m + 1)), .null] ⟨Or.inl rfl, ⟨Or.inl rfl, ⟨Or.inl rfl, ⟨Or.inl rfl, ⟨Or.inl rfl, ⟨Or.inr rfl, trivial⟩⟩⟩⟩⟩⟩ ?_
        exact ih (8 - (m + 1)) (by omega) (m + 1) (x) rfl (by omega) (zst hs (by rw [dda]; first | exact (if_neg (by assumption)).symm | exact ((if_pos (by assumption)).trans (if_pos (by assumption))).symm))
      · refine z_iconst (nI 1) (by decide) dX8_date_73 ?_
        refine z_goto 78 (by decide) dX8_date_74 ?_
        refine z_istore (by decide) rfl dX8_date_78 ?_
        refine z_iload rfl dX8_date_80 ?_
        refine z_if_eq 106 (by decide) dX8_date_82 (fun h => absurd h (by decide)) (fun _ => ?_)
        refine z_aload_n rfl rfl dX8_date_85 ?_
        refine m_getR (121) kf_X8_19 (zl_a rfl rfl) rfl rfl (by decide) dX8_date_86 ?_
        refine z_iload rfl dX8_date_89 ?_
        refine m_iald (((8 * b)) + m) (zl_a rfl rfl) rfl (by omega) (by decide) dX8_date_91 ?_
        refine z_iload_n rfl rfl dX8_date_92 ?_
        refine z_icmp_le 106 (by decide) dX8_date_93 (fun h5 => ?_) (fun h6 => ?_)
        · refine z_iload_n rfl rfl dX8_date_106 ?_
          refine z_istore_n rfl (by decide) rfl dX8_date_107 ?_
          refine z_iinc (nI (((8 * b)) + m + 1)) rfl (zinc _) (by decide) rfl dX8_date_108 ?_
          refine z_goto 32 (by decide) dX8_date_111 ?_
          refine z_fgt [.ref (117), .int (nI c), .int (nI b), .int (x), .int (nI (((8 * b)) + m + 1)), .null] ⟨Or.inl rfl, ⟨Or.inl rfl, ⟨Or.inl rfl, ⟨Or.inl rfl, ⟨Or.inl rfl, ⟨Or.inr rfl, trivial⟩⟩⟩⟩⟩⟩ ?_
          exact ih (8 - (m + 1)) (by omega) (m + 1) (x) rfl (by omega) (zst hs (by rw [dda]; first | exact (if_neg (by assumption)).symm | exact ((if_pos (by assumption)).trans (if_pos (by assumption))).symm))
        · refine z_aload_n rfl rfl dX8_date_96 ?_
          refine m_getR (121) kf_X8_19 (zl_a rfl rfl) rfl rfl (by decide) dX8_date_97 ?_
          refine z_iload rfl dX8_date_100 ?_
          refine m_iald (((8 * b)) + m) (zl_a rfl rfl) rfl (by omega) (by decide) dX8_date_102 ?_
          refine z_goto 107 (by decide) dX8_date_103 ?_
          refine z_istore_n rfl (by decide) rfl dX8_date_107 ?_
          refine z_iinc (nI (((8 * b)) + m + 1)) rfl (zinc _) (by decide) rfl dX8_date_108 ?_
          refine z_goto 32 (by decide) dX8_date_111 ?_
          refine z_fgt [.ref (117), .int (nI c), .int (nI b), .int (μ (121) (((8 * b)) + m)), .int (nI (((8 * b)) + m + 1)), .null] ⟨Or.inl rfl, ⟨Or.inl rfl, ⟨Or.inl rfl, ⟨Or.inl rfl, ⟨Or.inl rfl, ⟨Or.inr rfl, trivial⟩⟩⟩⟩⟩⟩ ?_
          exact ih (8 - (m + 1)) (by omega) (m + 1) (μ (121) (((8 * b)) + m)) rfl (by omega) (zst hs (by rw [dda, if_pos (by assumption), if_neg (by assumption)]))
set_option maxRecDepth 100000 in
set_option maxHeartbeats 4000000 in
theorem ct_X8_date {E : Nat × (Nat → Int32)} {μ : Nat → Nat → Int32} {g : Int64} {nc : Nat} (hnc : μ 117 13 = nI nc) (hn12 : nc ≤ 12) {c b : Nat} (hc : c < nc) (hb : b < 3)  : zCt E kX8_date [.ref (117), .int (nI c), .int (nI b)] (zm μ g) ((.inl (some (.int (zit (dda (zu μ 117 0 (nI 0)) c) (8 * b) 8 (-1)))), zm (zu μ 117 0 (nI 0)) g) : zO) := by
  refine zCt_of ko_X8_date (Nat.le_of_ble_eq_true rfl) (zas_r (zas_i (zas_i zas_0))) ⟨Nat.le_refl _, fun h => absurd h (Nat.lt_irrefl _)⟩ (Nat.le_of_ble_eq_true rfl) ?_
  show zV false E kX8_date 145 _ 0 [.ref (117), .int (nI c), .int (nI b), .null, .null, .null] [] (zm μ g) 0 0
  refine z_aload_n rfl rfl dX8_date_0 ?_
  refine z_aload_n rfl rfl dX8_date_1 ?_
  refine z_iload_n rfl rfl dX8_date_2 ?_
  refine z_callV (as := [.int (nI c)]) (ct_X8_isChart hnc hn12 (j := c) (by omega)) ko_X8_isChart kl_X8_136 rfl (zl_a rfl rfl) rfl rfl ⟨by decide, by decide, by decide, by decide⟩ (Nat.le_of_ble_eq_true rfl) rfl dX8_date_3 ?_
  refine z_if_eq 20 (by decide) dX8_date_6 (fun h => absurd h (by decide)) (fun _ => ?_)
  refine z_iload_n rfl rfl dX8_date_9 ?_
  refine z_callS (as := [.int (nI b)]) (ct_X8_isBasin (j := b) (by omega)) ko_X8_isBasin kl_X8_152 rfl rfl ⟨by decide, by decide, by decide, by decide⟩ (Nat.le_of_ble_eq_true rfl) rfl dX8_date_10 ?_
  refine z_if_eq 20 (by decide) dX8_date_13 (fun h => absurd h (by decide)) (fun _ => ?_)
  refine z_iconst (nI 0) (by decide) dX8_date_16 ?_
  refine z_goto 21 (by decide) dX8_date_17 ?_
  refine m_putI kf_X8_92 (zl_a rfl rfl) rfl dX8_date_21 ?_
  refine z_iconst (-1) (by decide) dX8_date_24 ?_
  refine z_istore_n rfl (by decide) rfl dX8_date_25 ?_
  refine z_bipush (nI 8) (by decide) dX8_date_26 ?_
  refine z_iload_n rfl rfl dX8_date_28 ?_
  refine m_mulN dX8_date_29 ?_
  refine z_istore (by decide) rfl dX8_date_30 ?_
  exact lp_X8_date (μ := (zu μ 117 0 (nI 0))) (c := c) (b := b) (by omega) (by omega) rfl _ 0 _ rfl (Nat.zero_le _) rfl
