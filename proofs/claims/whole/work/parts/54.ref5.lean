/-! the reference: shrink, lose, of, ofIsland (printed by wip/whole/gen_k.py) -/
set_option maxRecDepth 100000 in
set_option maxHeartbeats 4000000 in
theorem lp_X8_canShrink {E : Nat × (Nat → Int32)} {g : Int64} {μ : zMu} {c b : Nat} (hc : c < 12) (hb : b < 3) {h : Int32} : ∀ (n : Nat) (m : Nat) (s : Int32), 8 - m = n → m ≤ 8 → s = zit (dcan μ c h) ((8 * b)) m (nI 1) → (s = nI 0 ∨ s = nI 1) → zV false E kX8_canShrink 145 (.inl (some (.int (zit (dcan μ c h) (8 * b) 8 (nI 1)))), zm μ g) 9 [.ref (117), .int (nI c), .int (nI b), .int (h), .int (s), .int (nI (((8 * b)) + m)), .null] [] (zm μ g) 0 0 := by
  intro n
  induction n using Nat.strongRecOn with
  | ind n ih =>
    intro m s hm hle hs hy
    refine z_iload rfl dX8_canShrink_9 ?_
    refine z_bipush (nI 8) (by decide) dX8_canShrink_11 ?_
    refine z_iload_n rfl rfl dX8_canShrink_13 ?_
    refine m_mulN dX8_canShrink_14 ?_
    refine z_bipush (nI 8) (by decide) dX8_canShrink_15 ?_
    refine m_addN dX8_canShrink_17 ?_
    refine z_icmp_ge 105 (by decide) dX8_canShrink_18 (z_br (zcn (n := (8 * b) + 8) (by omega) (((8 * b)) + m) (by omega)).2.2 (fun h1 => ?_)) (z_brn (zcn (n := (8 * b) + 8) (by omega) (((8 * b)) + m) (by omega)).2.2 (fun h2 => ?_))
    · have hmL : m = 8 := by omega
      have hz : zit (dcan μ c h) ((8 * b)) 8 (nI 1) = s := by rw [hs, hmL]
      refine z_iload rfl dX8_canShrink_105 ?_
      exact z_iret (by rw [hz]) rfl (zbn hy) (by decide) (by decide) dX8_canShrink_107
    · refine z_iload_n rfl rfl dX8_canShrink_21 ?_
      refine z_iload rfl dX8_canShrink_22 ?_
      refine z_callS (as := [.int (nI c), .int (nI (((8 * b)) + m))]) (ct_X8_spot (c) (((8 * b)) + m)) ko_X8_spot kl_X8_122 rfl rfl ⟨by decide, by decide, by decide, by decide⟩ (Nat.le_of_ble_eq_true rfl) rfl dX8_canShrink_24 ?_
      refine z_istore (by decide) rfl dX8_canShrink_27 ?_
      refine z_iload rfl dX8_canShrink_29 ?_
      refine z_if_eq 96 (by decide) dX8_canShrink_31 (fun h3 => ?_) (fun h4 => ?_)
      · refine z_iconst (nI 0) (by decide) dX8_canShrink_96 ?_
        refine z_istore (by decide) rfl dX8_canShrink_97 ?_
        refine z_iinc (nI (((8 * b)) + m + 1)) rfl (zinc _) (by decide) rfl dX8_canShrink_99 ?_
        refine z_goto 9 (by decide) dX8_canShrink_102 ?_
        refine z_fgt [.ref (117), .int (nI c), .int (nI b), .int (h), .int (nI 0), .int (nI (((8 * b)) + m + 1)), .null] ⟨Or.inl rfl, ⟨Or.inl rfl, ⟨Or.inl rfl, ⟨Or.inl rfl, ⟨Or.inl rfl, ⟨Or.inl rfl, ⟨Or.inr rfl, trivial⟩⟩⟩⟩⟩⟩⟩ ?_
        exact ih (8 - (m + 1)) (by omega) (m + 1) (nI 0) rfl (by omega) (zst hs (by rw [dcan]; first | exact (if_pos (by assumption)).symm | exact ((if_neg (by assumption)).trans (if_neg (fun q => q.elim (fun q => absurd q (by assumption)) (fun q => by first | exact absurd q.1 (by assumption) | exact absurd q.2 (by assumption))))).symm)) (Or.inl rfl)
      · refine z_aload_n rfl rfl dX8_canShrink_34 ?_
        refine m_getR (130) kf_X8_46 (zl_a rfl rfl) rfl rfl (by decide) dX8_canShrink_35 ?_
        refine z_iload rfl dX8_canShrink_38 ?_
        refine m_zald (24 * c + (((8 * b)) + m)) (zl_a rfl rfl) rfl (by omega) (by decide) dX8_canShrink_40 ?_
        refine z_if_eq 92 (by decide) dX8_canShrink_41 (fun h5 => ?_) (fun h6 => ?_)
        · refine z_iconst (nI 1) (by decide) dX8_canShrink_92 ?_
          refine z_goto 97 (by decide) dX8_canShrink_93 ?_
          refine z_istore (by decide) rfl dX8_canShrink_97 ?_
          refine z_iinc (nI (((8 * b)) + m + 1)) rfl (zinc _) (by decide) rfl dX8_canShrink_99 ?_
          refine z_goto 9 (by decide) dX8_canShrink_102 ?_
          refine z_fgt [.ref (117), .int (nI c), .int (nI b), .int (h), .int (nI 1), .int (nI (((8 * b)) + m + 1)), .null] ⟨Or.inl rfl, ⟨Or.inl rfl, ⟨Or.inl rfl, ⟨Or.inl rfl, ⟨Or.inl rfl, ⟨Or.inl rfl, ⟨Or.inr rfl, trivial⟩⟩⟩⟩⟩⟩⟩ ?_
          exact ih (8 - (m + 1)) (by omega) (m + 1) (nI 1) rfl (by omega) (zst hs (by rw [dcan, if_neg (by assumption), if_pos (by first | exact Or.inl (by assumption) | exact Or.inr ⟨by assumption, by assumption⟩)])) (Or.inr rfl)
        · refine z_aload_n rfl rfl dX8_canShrink_44 ?_
          refine m_getR (131) kf_X8_50 (zl_a rfl rfl) rfl rfl (by decide) dX8_canShrink_45 ?_
          refine z_iload rfl dX8_canShrink_48 ?_
          refine m_iald (24 * c + (((8 * b)) + m)) (zl_a rfl rfl) rfl (by omega) (by decide) dX8_canShrink_50 ?_
          refine z_iload_n rfl rfl dX8_canShrink_51 ?_
          refine z_imul dX8_canShrink_52 ?_
          refine z_bipush (nI 100) (by decide) dX8_canShrink_53 ?_
          refine z_idiv (by decide) dX8_canShrink_55 ?_
          refine z_sipush (-9999) (by decide) dX8_canShrink_56 ?_
          refine z_sipush (nI 9999) (by decide) dX8_canShrink_59 ?_
          refine z_callS (as := [.int (((μ (131) (24 * c + (((8 * b)) + m))) * h) / (nI 100)), .int (-9999), .int (nI 9999)]) (ct_X8_isInS (((μ (131) (24 * c + (((8 * b)) + m))) * h) / (nI 100)) (-9999) (nI 9999) (by decide)) ko_X8_isIn kl_X8_96 rfl rfl ⟨by decide, by decide, by decide, by decide⟩ (Nat.le_of_ble_eq_true rfl) rfl dX8_canShrink_62 ?_
          refine z_if_eq 96 (by decide) dX8_canShrink_65 (z_br zb_0 (fun h7 => ?_)) (z_br zb_n (fun h8 => ?_))
          · refine z_iconst (nI 0) (by decide) dX8_canShrink_96 ?_
            refine z_istore (by decide) rfl dX8_canShrink_97 ?_
            refine z_iinc (nI (((8 * b)) + m + 1)) rfl (zinc _) (by decide) rfl dX8_canShrink_99 ?_
            refine z_goto 9 (by decide) dX8_canShrink_102 ?_
            refine z_fgt [.ref (117), .int (nI c), .int (nI b), .int (h), .int (nI 0), .int (nI (((8 * b)) + m + 1)), .null] ⟨Or.inl rfl, ⟨Or.inl rfl, ⟨Or.inl rfl, ⟨Or.inl rfl, ⟨Or.inl rfl, ⟨Or.inl rfl, ⟨Or.inr rfl, trivial⟩⟩⟩⟩⟩⟩⟩ ?_
            exact ih (8 - (m + 1)) (by omega) (m + 1) (nI 0) rfl (by omega) (zst hs (by rw [dcan]; first | exact (if_pos (by assumption)).symm | exact ((if_neg (by assumption)).trans (if_neg (fun q => q.elim (fun q => absurd q (by assumption)) (fun q => by first | exact absurd q.1 (by assumption) | exact absurd q.2 (by assumption))))).symm)) (Or.inl rfl)
          · refine z_aload_n rfl rfl dX8_canShrink_68 ?_
            refine m_getR (132) kf_X8_53 (zl_a rfl rfl) rfl rfl (by decide) dX8_canShrink_69 ?_
            refine z_iload rfl dX8_canShrink_72 ?_
            refine m_iald (24 * c + (((8 * b)) + m)) (zl_a rfl rfl) rfl (by omega) (by decide) dX8_canShrink_74 ?_
            refine z_iload_n rfl rfl dX8_canShrink_75 ?_
            refine z_imul dX8_canShrink_76 ?_
            refine z_bipush (nI 100) (by decide) dX8_canShrink_77 ?_
            refine z_idiv (by decide) dX8_canShrink_79 ?_
            refine z_sipush (-9999) (by decide) dX8_canShrink_80 ?_
            refine z_sipush (nI 9999) (by decide) dX8_canShrink_83 ?_
            refine z_callS (as := [.int (((μ (132) (24 * c + (((8 * b)) + m))) * h) / (nI 100)), .int (-9999), .int (nI 9999)]) (ct_X8_isInS (((μ (132) (24 * c + (((8 * b)) + m))) * h) / (nI 100)) (-9999) (nI 9999) (by decide)) ko_X8_isIn kl_X8_96 rfl rfl ⟨by decide, by decide, by decide, by decide⟩ (Nat.le_of_ble_eq_true rfl) rfl dX8_canShrink_86 ?_
            refine z_if_eq 96 (by decide) dX8_canShrink_89 (z_br zb_0 (fun h9 => ?_)) (z_br zb_n (fun h10 => ?_))
            · refine z_iconst (nI 0) (by decide) dX8_canShrink_96 ?_
              refine z_istore (by decide) rfl dX8_canShrink_97 ?_
              refine z_iinc (nI (((8 * b)) + m + 1)) rfl (zinc _) (by decide) rfl dX8_canShrink_99 ?_
              refine z_goto 9 (by decide) dX8_canShrink_102 ?_
              refine z_fgt [.ref (117), .int (nI c), .int (nI b), .int (h), .int (nI 0), .int (nI (((8 * b)) + m + 1)), .null] ⟨Or.inl rfl, ⟨Or.inl rfl, ⟨Or.inl rfl, ⟨Or.inl rfl, ⟨Or.inl rfl, ⟨Or.inl rfl, ⟨Or.inr rfl, trivial⟩⟩⟩⟩⟩⟩⟩ ?_
              exact ih (8 - (m + 1)) (by omega) (m + 1) (nI 0) rfl (by omega) (zst hs (by rw [dcan]; first | exact (if_pos (by assumption)).symm | exact ((if_neg (by assumption)).trans (if_neg (fun q => q.elim (fun q => absurd q (by assumption)) (fun q => by first | exact absurd q.1 (by assumption) | exact absurd q.2 (by assumption))))).symm)) (Or.inl rfl)
            · refine z_iconst (nI 1) (by decide) dX8_canShrink_92 ?_
              refine z_goto 97 (by decide) dX8_canShrink_93 ?_
              refine z_istore (by decide) rfl dX8_canShrink_97 ?_
              refine z_iinc (nI (((8 * b)) + m + 1)) rfl (zinc _) (by decide) rfl dX8_canShrink_99 ?_
              refine z_goto 9 (by decide) dX8_canShrink_102 ?_
              refine z_fgt [.ref (117), .int (nI c), .int (nI b), .int (h), .int (nI 1), .int (nI (((8 * b)) + m + 1)), .null] ⟨Or.inl rfl, ⟨Or.inl rfl, ⟨Or.inl rfl, ⟨Or.inl rfl, ⟨Or.inl rfl, ⟨Or.inl rfl, ⟨Or.inr rfl, trivial⟩⟩⟩⟩⟩⟩⟩ ?_
              exact ih (8 - (m + 1)) (by omega) (m + 1) (nI 1) rfl (by omega) (zst hs (by rw [dcan, if_neg (by assumption), if_pos (by first | exact Or.inl (by assumption) | exact Or.inr ⟨by assumption, by assumption⟩)])) (Or.inr rfl)
set_option maxRecDepth 100000 in
set_option maxHeartbeats 4000000 in
theorem ct_X8_canShrink {E : Nat × (Nat → Int32)} {μ : Nat → Nat → Int32} {g : Int64} {c b : Nat} (hc : c < 12) (hb : b < 3) {h : Int32} : zCt E kX8_canShrink [.ref (117), .int (nI c), .int (nI b), .int (h)] (zm μ g) (.inl (some (.int (zit (dcan μ c h) (8 * b) 8 (nI 1)))), zm μ g) := by
  refine zCt_of ko_X8_canShrink (Nat.le_of_ble_eq_true rfl) (zas_r (zas_i (zas_i (zas_i zas_0)))) ⟨Nat.le_refl _, fun h => absurd h (Nat.lt_irrefl _)⟩ (Nat.le_of_ble_eq_true rfl) ?_
  show zV false E kX8_canShrink 145 _ 0 [.ref (117), .int (nI c), .int (nI b), .int (h), .null, .null, .null] [] (zm μ g) 0 0
  refine z_iconst (nI 1) (by decide) dX8_canShrink_0 ?_
  refine z_istore (by decide) rfl dX8_canShrink_1 ?_
  refine z_bipush (nI 8) (by decide) dX8_canShrink_3 ?_
  refine z_iload_n rfl rfl dX8_canShrink_5 ?_
  refine m_mulN dX8_canShrink_6 ?_
  refine z_istore (by decide) rfl dX8_canShrink_7 ?_
  exact lp_X8_canShrink hc hb _ 0 _ rfl (Nat.zero_le _) rfl (Or.inr rfl)
set_option maxRecDepth 100000 in
set_option maxHeartbeats 4000000 in
theorem ctx_X8_shrink {E : Nat × (Nat → Int32)} {μ : Nat → Nat → Int32} {g : Int64} {nc : Nat} (hnc : μ 117 13 = nI nc) (hn12 : nc ≤ 12) {p b h q : Int32} (hbad : ¬ (zrg nc p ∧ zrg 3 b)) : zCt E kX8_shrink [.ref (117), .int (p), .int (b), .int (h), .int (q)] (zm μ g) (.inl (some (.int (nI 0))), zm ((zu μ 117 0 (nI 1))) g) := by
  refine zCt_of ko_X8_shrink (Nat.le_of_ble_eq_true rfl) (zas_r (zas_i (zas_i (zas_i (zas_i zas_0))))) ⟨Nat.le_refl _, fun h => absurd h (Nat.lt_irrefl _)⟩ (Nat.le_of_ble_eq_true rfl) ?_
  show zV false E kX8_shrink 145 _ 0 [.ref (117), .int (p), .int (b), .int (h), .int (q), .null, .null, .null] [] (zm μ g) 0 0
  refine z_aload_n rfl rfl dX8_shrink_0 ?_
  refine z_iload_n rfl rfl dX8_shrink_1 ?_
  refine z_callV (as := [.int (p)]) (ctg_X8_isChart hnc hn12 (p)) ko_X8_isChart kl_X8_136 rfl (zl_a rfl rfl) rfl rfl ⟨by decide, by decide, by decide, by decide⟩ (Nat.le_of_ble_eq_true rfl) rfl dX8_shrink_2 ?_
  refine z_if_eq 19 (by decide) dX8_shrink_5 (z_br zb_0 (fun h1 => ?_)) (z_br zb_n (fun h2 => ?_))
  · refine z_iconst (nI 0) (by decide) dX8_shrink_19 ?_
    refine z_istore (by decide) rfl dX8_shrink_20 ?_
    refine z_iload_n rfl rfl dX8_shrink_22 ?_
    refine z_bipush (nI 50) (by decide) dX8_shrink_23 ?_
    refine z_sipush (nI 200) (by decide) dX8_shrink_25 ?_
    refine z_callS (as := [.int (h), .int (nI 50), .int (nI 200)]) (ct_X8_isIn (h) (nI 50) (nI 200)) ko_X8_isIn kl_X8_96 rfl rfl ⟨by decide, by decide, by decide, by decide⟩ (Nat.le_of_ble_eq_true rfl) rfl dX8_shrink_28 ?_
    refine z_istore (by decide) rfl dX8_shrink_31 ?_
    refine z_aload_n rfl rfl dX8_shrink_33 ?_
    refine z_iload rfl dX8_shrink_34 ?_
    refine z_if_ne 43 (by decide) dX8_shrink_36 (fun h => absurd h (by decide)) (fun _ => ?_)
    refine z_iconst (nI 1) (by decide) dX8_shrink_39 ?_
    refine z_goto 72 (by decide) dX8_shrink_40 ?_
    refine m_putI kf_X8_92 (zl_a rfl rfl) rfl dX8_shrink_72 ?_
    refine z_aload_n rfl rfl dX8_shrink_75 ?_
    refine m_getI kf_X8_92 (zl_a rfl rfl) rfl dX8_shrink_76 ?_
    refine m_eqv (w := nI 1) (rfl) ?_
    refine z_if_le 84 (by decide) dX8_shrink_79 (fun h => absurd h (by decide)) (fun _ => ?_)
    refine z_iconst (nI 0) (by decide) dX8_shrink_82 ?_
    exact z_iret (rfl) rfl (znarI _) (by decide) (by decide) dX8_shrink_83
  · refine z_iload_n rfl rfl dX8_shrink_8 ?_
    refine z_callS (as := [.int (b)]) (ctg_X8_isBasin (b)) ko_X8_isBasin kl_X8_152 rfl rfl ⟨by decide, by decide, by decide, by decide⟩ (Nat.le_of_ble_eq_true rfl) rfl dX8_shrink_9 ?_
    refine z_if_eq 19 (by decide) dX8_shrink_12 (z_br zb_0 (fun h3 => ?_)) (z_br zb_n (fun h4 => ?_))
    · refine z_iconst (nI 0) (by decide) dX8_shrink_19 ?_
      refine z_istore (by decide) rfl dX8_shrink_20 ?_
      refine z_iload_n rfl rfl dX8_shrink_22 ?_
      refine z_bipush (nI 50) (by decide) dX8_shrink_23 ?_
      refine z_sipush (nI 200) (by decide) dX8_shrink_25 ?_
      refine z_callS (as := [.int (h), .int (nI 50), .int (nI 200)]) (ct_X8_isIn (h) (nI 50) (nI 200)) ko_X8_isIn kl_X8_96 rfl rfl ⟨by decide, by decide, by decide, by decide⟩ (Nat.le_of_ble_eq_true rfl) rfl dX8_shrink_28 ?_
      refine z_istore (by decide) rfl dX8_shrink_31 ?_
      refine z_aload_n rfl rfl dX8_shrink_33 ?_
      refine z_iload rfl dX8_shrink_34 ?_
      refine z_if_ne 43 (by decide) dX8_shrink_36 (fun h => absurd h (by decide)) (fun _ => ?_)
      refine z_iconst (nI 1) (by decide) dX8_shrink_39 ?_
      refine z_goto 72 (by decide) dX8_shrink_40 ?_
      refine m_putI kf_X8_92 (zl_a rfl rfl) rfl dX8_shrink_72 ?_
      refine z_aload_n rfl rfl dX8_shrink_75 ?_
      refine m_getI kf_X8_92 (zl_a rfl rfl) rfl dX8_shrink_76 ?_
      refine m_eqv (w := nI 1) (rfl) ?_
      refine z_if_le 84 (by decide) dX8_shrink_79 (fun h => absurd h (by decide)) (fun _ => ?_)
      refine z_iconst (nI 0) (by decide) dX8_shrink_82 ?_
      exact z_iret (rfl) rfl (znarI _) (by decide) (by decide) dX8_shrink_83
    · exact absurd (by repeat' (first | assumption | apply And.intro)) hbad
set_option maxRecDepth 100000 in
set_option maxHeartbeats 4000000 in
theorem lp_X8_shrink {E : Nat × (Nat → Int32)} {g : Int64} {μ : zMu} {c b : Nat} (hc : c < 12) (hb : b < 3) {h : Int32} {O : zO} (kk : zV false E kX8_shrink 145 O 167 [.ref (117), .int (nI c), .int (nI b), .int (h), .int (nI 0), .null, .null, .null] [] (zm (zit (dshr c h) (8 * b) 8 μ) g) 0 0) : ∀ (n : Nat) (m : Nat) (ν : zMu), 8 - m = n → m ≤ 8 → ν = zit (dshr c h) ((8 * b)) m (μ) → zV false E kX8_shrink 145 O 90 [.ref (117), .int (nI c), .int (nI b), .int (h), .int (nI 0), .null, .null, .int (nI (((8 * b)) + m))] [] (zm ν g) 0 0 := by
  intro n
  induction n using Nat.strongRecOn with
  | ind n ih =>
    intro m ν hm hle hs 
    refine z_iload rfl dX8_shrink_90 ?_
    refine z_bipush (nI 8) (by decide) dX8_shrink_92 ?_
    refine z_iload_n rfl rfl dX8_shrink_94 ?_
    refine m_mulN dX8_shrink_95 ?_
    refine z_bipush (nI 8) (by decide) dX8_shrink_96 ?_
    refine m_addN dX8_shrink_98 ?_
    refine z_icmp_ge 167 (by decide) dX8_shrink_99 (z_br (zcn (n := (8 * b) + 8) (by omega) (((8 * b)) + m) (by omega)).2.2 (fun h1 => ?_)) (z_brn (zcn (n := (8 * b) + 8) (by omega) (((8 * b)) + m) (by omega)).2.2 (fun h2 => ?_))
    · have hmL : m = 8 := by omega
      have hz : zit (dshr c h) ((8 * b)) 8 (μ) = ν := by rw [hs, hmL]
      rw [hz] at kk
      refine z_fgt [.ref (117), .int (nI c), .int (nI b), .int (h), .int (nI 0), .null, .null, .null] ⟨Or.inl rfl, ⟨Or.inl rfl, ⟨Or.inl rfl, ⟨Or.inl rfl, ⟨Or.inl rfl, ⟨Or.inl rfl, ⟨Or.inl rfl, ⟨Or.inr rfl, trivial⟩⟩⟩⟩⟩⟩⟩⟩ ?_
      exact kk
    · refine z_iload rfl dX8_shrink_102 ?_
      refine z_if_ne 167 (by decide) dX8_shrink_104 (fun h => absurd h (by decide)) (fun _ => ?_)
      refine z_aload_n rfl rfl dX8_shrink_107 ?_
      refine m_getR (131) kf_X8_50 (zl_a rfl rfl) rfl rfl (by decide) dX8_shrink_108 ?_
      refine z_iload_n rfl rfl dX8_shrink_111 ?_
      refine z_iload rfl dX8_shrink_112 ?_
      refine z_callS (as := [.int (nI c), .int (nI (((8 * b)) + m))]) (ct_X8_spot (c) (((8 * b)) + m)) ko_X8_spot kl_X8_122 rfl rfl ⟨by decide, by decide, by decide, by decide⟩ (Nat.le_of_ble_eq_true rfl) rfl dX8_shrink_114 ?_
      refine z_aload_n rfl rfl dX8_shrink_117 ?_
      refine m_getR (131) kf_X8_50 (zl_a rfl rfl) rfl rfl (by decide) dX8_shrink_118 ?_
      refine z_iload_n rfl rfl dX8_shrink_121 ?_
      refine z_iload rfl dX8_shrink_122 ?_
      refine z_callS (as := [.int (nI c), .int (nI (((8 * b)) + m))]) (ct_X8_spot (c) (((8 * b)) + m)) ko_X8_spot kl_X8_122 rfl rfl ⟨by decide, by decide, by decide, by decide⟩ (Nat.le_of_ble_eq_true rfl) rfl dX8_shrink_124 ?_
      refine m_iald (24 * c + (((8 * b)) + m)) (zl_a rfl rfl) rfl (by omega) (by decide) dX8_shrink_127 ?_
      refine z_iload_n rfl rfl dX8_shrink_128 ?_
      refine z_imul dX8_shrink_129 ?_
      refine z_bipush (nI 100) (by decide) dX8_shrink_130 ?_
      refine z_idiv (by decide) dX8_shrink_132 ?_
      refine m_iast (24 * c + (((8 * b)) + m)) (zl_a rfl rfl) rfl (by omega) (by decide) dX8_shrink_133 ?_
      refine z_aload_n rfl rfl dX8_shrink_134 ?_
      refine m_getR (132) kf_X8_53 (zl_a rfl rfl) rfl rfl (by decide) dX8_shrink_135 ?_
      refine z_iload_n rfl rfl dX8_shrink_138 ?_
      refine z_iload rfl dX8_shrink_139 ?_
      refine z_callS (as := [.int (nI c), .int (nI (((8 * b)) + m))]) (ct_X8_spot (c) (((8 * b)) + m)) ko_X8_spot kl_X8_122 rfl rfl ⟨by decide, by decide, by decide, by decide⟩ (Nat.le_of_ble_eq_true rfl) rfl dX8_shrink_141 ?_
      refine z_aload_n rfl rfl dX8_shrink_144 ?_
      refine m_getR (132) kf_X8_53 (zl_a rfl rfl) rfl rfl (by decide) dX8_shrink_145 ?_
      refine z_iload_n rfl rfl dX8_shrink_148 ?_
      refine z_iload rfl dX8_shrink_149 ?_
      refine z_callS (as := [.int (nI c), .int (nI (((8 * b)) + m))]) (ct_X8_spot (c) (((8 * b)) + m)) ko_X8_spot kl_X8_122 rfl rfl ⟨by decide, by decide, by decide, by decide⟩ (Nat.le_of_ble_eq_true rfl) rfl dX8_shrink_151 ?_
      refine m_iald (24 * c + (((8 * b)) + m)) (zl_a rfl rfl) rfl (by omega) (by decide) dX8_shrink_154 ?_
      refine z_iload_n rfl rfl dX8_shrink_155 ?_
      refine z_imul dX8_shrink_156 ?_
      refine z_bipush (nI 100) (by decide) dX8_shrink_157 ?_
      refine z_idiv (by decide) dX8_shrink_159 ?_
      refine m_iast (24 * c + (((8 * b)) + m)) (zl_a rfl rfl) rfl (by omega) (by decide) dX8_shrink_160 ?_
      refine z_iinc (nI (((8 * b)) + m + 1)) rfl (zinc _) (by decide) rfl dX8_shrink_161 ?_
      refine z_goto 90 (by decide) dX8_shrink_164 ?_
      exact ih (8 - (m + 1)) (by omega) (m + 1) (zu (zu ν (131) (24 * c + (((8 * b)) + m)) (((ν (131) (24 * c + (((8 * b)) + m))) * h) / (nI 100))) (132) (24 * c + (((8 * b)) + m)) ((((zu ν (131) (24 * c + (((8 * b)) + m)) (((ν (131) (24 * c + (((8 * b)) + m))) * h) / (nI 100))) (132) (24 * c + (((8 * b)) + m))) * h) / (nI 100))) rfl (by omega) (zst hs (rfl))
set_option maxRecDepth 100000 in
set_option maxHeartbeats 4000000 in
theorem ct_X8_shrink0 {E : Nat × (Nat → Int32)} {μ : Nat → Nat → Int32} {g : Int64} {nc : Nat} (hnc : μ 117 13 = nI nc) (hn12 : nc ≤ 12) {c b : Nat} (hc : c < nc) (hb : b < 3) {h : Int32}  : zCt E kX8_shrink [.ref (117), .int (nI c), .int (nI b), .int (h), .int (nI 0)] (zm μ g) (if ¬ (¬ h < nI 50 ∧ ¬ nI 200 < h) then (.inl (some (.int (nI 0))), zm ((zu μ 117 0 (nI 2))) g) else if zit (dcan μ c h) (8 * b) 8 (nI 1) = 0 then (.inl (some (.int (nI 0))), zm ((zu μ 117 0 (nI 3))) g) else (.inl (some (.int ((zu (zit (dshr c h) (8 * b) 8 (zu μ 117 0 (nI 0))) 129 (3 * c + b) ((zit (dshr c h) (8 * b) 8 (zu μ 117 0 (nI 0))) 129 (3 * c + b))) 129 (3 * c + b)))), zm (zu (zit (dshr c h) (8 * b) 8 (zu μ 117 0 (nI 0))) 129 (3 * c + b) ((zit (dshr c h) (8 * b) 8 (zu μ 117 0 (nI 0))) 129 (3 * c + b))) g) : zO) := by
  refine zCt_of ko_X8_shrink (Nat.le_of_ble_eq_true rfl) (zas_r (zas_i (zas_i (zas_i (zas_i zas_0))))) (zMM (zifn rfl (zifn rfl rfl))) (Nat.le_of_ble_eq_true rfl) ?_
  show zV false E kX8_shrink 145 _ 0 [.ref (117), .int (nI c), .int (nI b), .int (h), .int (nI 0), .null, .null, .null] [] (zm μ g) 0 0
  refine z_aload_n rfl rfl dX8_shrink_0 ?_
  refine z_iload_n rfl rfl dX8_shrink_1 ?_
  refine z_callV (as := [.int (nI c)]) (ct_X8_isChart hnc hn12 (j := c) (by omega)) ko_X8_isChart kl_X8_136 rfl (zl_a rfl rfl) rfl rfl ⟨by decide, by decide, by decide, by decide⟩ (Nat.le_of_ble_eq_true rfl) rfl dX8_shrink_2 ?_
  refine z_if_eq 19 (by decide) dX8_shrink_5 (fun h => absurd h (by decide)) (fun _ => ?_)
  refine z_iload_n rfl rfl dX8_shrink_8 ?_
  refine z_callS (as := [.int (nI b)]) (ct_X8_isBasin (j := b) (by omega)) ko_X8_isBasin kl_X8_152 rfl rfl ⟨by decide, by decide, by decide, by decide⟩ (Nat.le_of_ble_eq_true rfl) rfl dX8_shrink_9 ?_
  refine z_if_eq 19 (by decide) dX8_shrink_12 (fun h => absurd h (by decide)) (fun _ => ?_)
  refine z_iconst (nI 1) (by decide) dX8_shrink_15 ?_
  refine z_goto 20 (by decide) dX8_shrink_16 ?_
  refine z_istore (by decide) rfl dX8_shrink_20 ?_
  refine z_iload_n rfl rfl dX8_shrink_22 ?_
  refine z_bipush (nI 50) (by decide) dX8_shrink_23 ?_
  refine z_sipush (nI 200) (by decide) dX8_shrink_25 ?_
  refine z_callS (as := [.int (h), .int (nI 50), .int (nI 200)]) (ct_X8_isIn (h) (nI 50) (nI 200)) ko_X8_isIn kl_X8_96 rfl rfl ⟨by decide, by decide, by decide, by decide⟩ (Nat.le_of_ble_eq_true rfl) rfl dX8_shrink_28 ?_
  refine z_istore (by decide) rfl dX8_shrink_31 ?_
  refine z_aload_n rfl rfl dX8_shrink_33 ?_
  refine z_iload rfl dX8_shrink_34 ?_
  refine z_if_ne 43 (by decide) dX8_shrink_36 (fun _ => ?_) (fun h => absurd h (by decide))
  refine z_iload rfl dX8_shrink_43 ?_
  refine z_if_ne 52 (by decide) dX8_shrink_45 (z_br zb_n (fun h1 => ?_)) (z_br zb_0 (fun h2 => ?_))
  · refine z_iload rfl dX8_shrink_52 ?_
    refine z_if_ne 71 (by decide) dX8_shrink_54 (fun h => absurd h (by decide)) (fun _ => ?_)
    refine z_aload_n rfl rfl dX8_shrink_57 ?_
    refine z_iload_n rfl rfl dX8_shrink_58 ?_
    refine z_iload_n rfl rfl dX8_shrink_59 ?_
    refine z_iload_n rfl rfl dX8_shrink_60 ?_
    refine z_callV (as := [.int (nI c), .int (nI b), .int (h)]) (ct_X8_canShrink (c := c) (b := b) (by omega) (by omega) (h := h)) ko_X8_canShrink kl_X8_155 rfl (zl_a rfl rfl) rfl rfl ⟨by decide, by decide, by decide, by decide⟩ (Nat.le_of_ble_eq_true rfl) rfl dX8_shrink_61 ?_
    refine z_if_ne 71 (by decide) dX8_shrink_64 (fun h3 => ?_) (fun h4 => ?_)
    · refine z_iconst (nI 0) (by decide) dX8_shrink_71 ?_
      refine m_putI kf_X8_92 (zl_a rfl rfl) rfl dX8_shrink_72 ?_
      refine z_aload_n rfl rfl dX8_shrink_75 ?_
      refine m_getI kf_X8_92 (zl_a rfl rfl) rfl dX8_shrink_76 ?_
      refine m_eqv (w := nI 0) (rfl) ?_
      refine z_if_le 84 (by decide) dX8_shrink_79 (fun _ => ?_) (fun h => absurd h (by decide))
      refine z_bipush (nI 8) (by decide) dX8_shrink_84 ?_
      refine z_iload_n rfl rfl dX8_shrink_86 ?_
      refine m_mulN dX8_shrink_87 ?_
      refine z_istore (by decide) rfl dX8_shrink_88 ?_
      refine z_fgt [.ref (117), .int (nI c), .int (nI b), .int (h), .int (nI 0), .null, .null, .int (nI (8 * b))] ⟨Or.inl rfl, ⟨Or.inl rfl, ⟨Or.inl rfl, ⟨Or.inl rfl, ⟨Or.inl rfl, ⟨Or.inr rfl, ⟨Or.inr rfl, ⟨Or.inl rfl, trivial⟩⟩⟩⟩⟩⟩⟩⟩ ?_
      refine lp_X8_shrink (μ := (zu μ 117 0 (nI 0))) (c := c) (b := b) (h := h) (by omega) (by omega) ?_ _ 0 _ rfl (Nat.zero_le _) rfl
      refine z_iconst (nI 3) (by decide) dX8_shrink_167 ?_
      refine z_iload_n rfl rfl dX8_shrink_168 ?_
      refine m_mulN dX8_shrink_169 ?_
      refine z_iload_n rfl rfl dX8_shrink_170 ?_
      refine m_addN dX8_shrink_171 ?_
      refine z_istore (by decide) rfl dX8_shrink_172 ?_
      refine z_aload_n rfl rfl dX8_shrink_174 ?_
      refine m_getR (129) kf_X8_43 (zl_a rfl rfl) rfl rfl (by decide) dX8_shrink_175 ?_
      refine z_iload rfl dX8_shrink_178 ?_
      refine z_iload rfl dX8_shrink_180 ?_
      refine z_if_eq 189 (by decide) dX8_shrink_182 (fun _ => ?_) (fun h => absurd h (by decide))
      refine z_aload_n rfl rfl dX8_shrink_189 ?_
      refine m_getR (129) kf_X8_43 (zl_a rfl rfl) rfl rfl (by decide) dX8_shrink_190 ?_
      refine z_iload rfl dX8_shrink_193 ?_
      refine m_iald ((3 * c) + b) (zl_a rfl rfl) rfl (by omega) (by decide) dX8_shrink_195 ?_
      refine m_iast ((3 * c) + b) (zl_a rfl rfl) rfl (by omega) (by decide) dX8_shrink_196 ?_
      refine z_aload_n rfl rfl dX8_shrink_197 ?_
      refine m_getR (129) kf_X8_43 (zl_a rfl rfl) rfl rfl (by decide) dX8_shrink_198 ?_
      refine z_iload rfl dX8_shrink_201 ?_
      refine m_iald ((3 * c) + b) (zl_a rfl rfl) rfl (by omega) (by decide) dX8_shrink_203 ?_
      exact z_iret ((if_neg (fun q => q (by assumption))).trans ((if_neg (by assumption)).trans (rfl))) rfl (znarI _) (by decide) (by decide) dX8_shrink_204
    · refine z_iconst (nI 3) (by decide) dX8_shrink_67 ?_
      refine z_goto 72 (by decide) dX8_shrink_68 ?_
      refine m_putI kf_X8_92 (zl_a rfl rfl) rfl dX8_shrink_72 ?_
      refine z_aload_n rfl rfl dX8_shrink_75 ?_
      refine m_getI kf_X8_92 (zl_a rfl rfl) rfl dX8_shrink_76 ?_
      refine m_eqv (w := nI 3) (rfl) ?_
      refine z_if_le 84 (by decide) dX8_shrink_79 (fun h => absurd h (by decide)) (fun _ => ?_)
      refine z_iconst (nI 0) (by decide) dX8_shrink_82 ?_
      exact z_iret ((if_neg (fun q => q (by assumption))).trans ((if_pos (by assumption)).trans rfl)) rfl (znarI _) (by decide) (by decide) dX8_shrink_83
  · refine z_iconst (nI 2) (by decide) dX8_shrink_48 ?_
    refine z_goto 72 (by decide) dX8_shrink_49 ?_
    refine m_putI kf_X8_92 (zl_a rfl rfl) rfl dX8_shrink_72 ?_
    refine z_aload_n rfl rfl dX8_shrink_75 ?_
    refine m_getI kf_X8_92 (zl_a rfl rfl) rfl dX8_shrink_76 ?_
    refine m_eqv (w := nI 2) (rfl) ?_
    refine z_if_le 84 (by decide) dX8_shrink_79 (fun h => absurd h (by decide)) (fun _ => ?_)
    refine z_iconst (nI 0) (by decide) dX8_shrink_82 ?_
    exact z_iret ((if_pos (by assumption)).trans rfl) rfl (znarI _) (by decide) (by decide) dX8_shrink_83
set_option maxRecDepth 100000 in
set_option maxHeartbeats 4000000 in
theorem ct_X8_shrink1 {E : Nat × (Nat → Int32)} {μ : Nat → Nat → Int32} {g : Int64} {nc : Nat} (hnc : μ 117 13 = nI nc) (hn12 : nc ≤ 12) {c b : Nat} (hc : c < nc) (hb : b < 3) {h : Int32}  : zCt E kX8_shrink [.ref (117), .int (nI c), .int (nI b), .int (h), .int (nI 1)] (zm μ g) (if ¬ (¬ h < nI 50 ∧ ¬ nI 200 < h) then (.inl (some (.int (nI 0))), zm ((zu μ 117 0 (nI 2))) g) else (.inl (some (.int (h))), zm (zu (zu μ 117 0 (nI 0)) 129 (3 * c + b) h) g) : zO) := by
  refine zCt_of ko_X8_shrink (Nat.le_of_ble_eq_true rfl) (zas_r (zas_i (zas_i (zas_i (zas_i zas_0))))) (zMM (zifn rfl rfl)) (Nat.le_of_ble_eq_true rfl) ?_
  show zV false E kX8_shrink 145 _ 0 [.ref (117), .int (nI c), .int (nI b), .int (h), .int (nI 1), .null, .null, .null] [] (zm μ g) 0 0
  refine z_aload_n rfl rfl dX8_shrink_0 ?_
  refine z_iload_n rfl rfl dX8_shrink_1 ?_
  refine z_callV (as := [.int (nI c)]) (ct_X8_isChart hnc hn12 (j := c) (by omega)) ko_X8_isChart kl_X8_136 rfl (zl_a rfl rfl) rfl rfl ⟨by decide, by decide, by decide, by decide⟩ (Nat.le_of_ble_eq_true rfl) rfl dX8_shrink_2 ?_
  refine z_if_eq 19 (by decide) dX8_shrink_5 (fun h => absurd h (by decide)) (fun _ => ?_)
  refine z_iload_n rfl rfl dX8_shrink_8 ?_
  refine z_callS (as := [.int (nI b)]) (ct_X8_isBasin (j := b) (by omega)) ko_X8_isBasin kl_X8_152 rfl rfl ⟨by decide, by decide, by decide, by decide⟩ (Nat.le_of_ble_eq_true rfl) rfl dX8_shrink_9 ?_
  refine z_if_eq 19 (by decide) dX8_shrink_12 (fun h => absurd h (by decide)) (fun _ => ?_)
  refine z_iconst (nI 1) (by decide) dX8_shrink_15 ?_
  refine z_goto 20 (by decide) dX8_shrink_16 ?_
  refine z_istore (by decide) rfl dX8_shrink_20 ?_
  refine z_iload_n rfl rfl dX8_shrink_22 ?_
  refine z_bipush (nI 50) (by decide) dX8_shrink_23 ?_
  refine z_sipush (nI 200) (by decide) dX8_shrink_25 ?_
  refine z_callS (as := [.int (h), .int (nI 50), .int (nI 200)]) (ct_X8_isIn (h) (nI 50) (nI 200)) ko_X8_isIn kl_X8_96 rfl rfl ⟨by decide, by decide, by decide, by decide⟩ (Nat.le_of_ble_eq_true rfl) rfl dX8_shrink_28 ?_
  refine z_istore (by decide) rfl dX8_shrink_31 ?_
  refine z_aload_n rfl rfl dX8_shrink_33 ?_
  refine z_iload rfl dX8_shrink_34 ?_
  refine z_if_ne 43 (by decide) dX8_shrink_36 (fun _ => ?_) (fun h => absurd h (by decide))
  refine z_iload rfl dX8_shrink_43 ?_
  refine z_if_ne 52 (by decide) dX8_shrink_45 (z_br zb_n (fun h1 => ?_)) (z_br zb_0 (fun h2 => ?_))
  · refine z_iload rfl dX8_shrink_52 ?_
    refine z_if_ne 71 (by decide) dX8_shrink_54 (fun _ => ?_) (fun h => absurd h (by decide))
    refine z_iconst (nI 0) (by decide) dX8_shrink_71 ?_
    refine m_putI kf_X8_92 (zl_a rfl rfl) rfl dX8_shrink_72 ?_
    refine z_aload_n rfl rfl dX8_shrink_75 ?_
    refine m_getI kf_X8_92 (zl_a rfl rfl) rfl dX8_shrink_76 ?_
    refine m_eqv (w := nI 0) (rfl) ?_
    refine z_if_le 84 (by decide) dX8_shrink_79 (fun _ => ?_) (fun h => absurd h (by decide))
    refine z_bipush (nI 8) (by decide) dX8_shrink_84 ?_
    refine z_iload_n rfl rfl dX8_shrink_86 ?_
    refine m_mulN dX8_shrink_87 ?_
    refine z_istore (by decide) rfl dX8_shrink_88 ?_
    refine z_iload rfl dX8_shrink_90 ?_
    refine z_bipush (nI 8) (by decide) dX8_shrink_92 ?_
    refine z_iload_n rfl rfl dX8_shrink_94 ?_
    refine m_mulN dX8_shrink_95 ?_
    refine z_bipush (nI 8) (by decide) dX8_shrink_96 ?_
    refine m_addN dX8_shrink_98 ?_
    refine z_icmp_ge 167 (by decide) dX8_shrink_99 (z_br (zcn (n := (8 * b) + 8) (by omega) (8 * b) (by omega)).2.2 (fun h3 => ?_)) (z_brn (zcn (n := (8 * b) + 8) (by omega) (8 * b) (by omega)).2.2 (fun h4 => ?_))
    · omega
    · refine z_iload rfl dX8_shrink_102 ?_
      refine z_if_ne 167 (by decide) dX8_shrink_104 (fun _ => ?_) (fun h => absurd h (by decide))
      refine z_iconst (nI 3) (by decide) dX8_shrink_167 ?_
      refine z_iload_n rfl rfl dX8_shrink_168 ?_
      refine m_mulN dX8_shrink_169 ?_
      refine z_iload_n rfl rfl dX8_shrink_170 ?_
      refine m_addN dX8_shrink_171 ?_
      refine z_istore (by decide) rfl dX8_shrink_172 ?_
      refine z_aload_n rfl rfl dX8_shrink_174 ?_
      refine m_getR (129) kf_X8_43 (zl_a rfl rfl) rfl rfl (by decide) dX8_shrink_175 ?_
      refine z_iload rfl dX8_shrink_178 ?_
      refine z_iload rfl dX8_shrink_180 ?_
      refine z_if_eq 189 (by decide) dX8_shrink_182 (fun h => absurd h (by decide)) (fun _ => ?_)
      refine z_iload_n rfl rfl dX8_shrink_185 ?_
      refine z_goto 196 (by decide) dX8_shrink_186 ?_
      refine m_iast ((3 * c) + b) (zl_a rfl rfl) rfl (by omega) (by decide) dX8_shrink_196 ?_
      refine z_aload_n rfl rfl dX8_shrink_197 ?_
      refine m_getR (129) kf_X8_43 (zl_a rfl rfl) rfl rfl (by decide) dX8_shrink_198 ?_
      refine z_iload rfl dX8_shrink_201 ?_
      refine m_iald ((3 * c) + b) (zl_a rfl rfl) rfl (by omega) (by decide) dX8_shrink_203 ?_
      exact z_iret ((if_neg (fun q => q (by assumption))).trans (by rw [zu_s])) rfl (znarI _) (by decide) (by decide) dX8_shrink_204
  · refine z_iconst (nI 2) (by decide) dX8_shrink_48 ?_
    refine z_goto 72 (by decide) dX8_shrink_49 ?_
    refine m_putI kf_X8_92 (zl_a rfl rfl) rfl dX8_shrink_72 ?_
    refine z_aload_n rfl rfl dX8_shrink_75 ?_
    refine m_getI kf_X8_92 (zl_a rfl rfl) rfl dX8_shrink_76 ?_
    refine m_eqv (w := nI 2) (rfl) ?_
    refine z_if_le 84 (by decide) dX8_shrink_79 (fun h => absurd h (by decide)) (fun _ => ?_)
    refine z_iconst (nI 0) (by decide) dX8_shrink_82 ?_
    exact z_iret ((if_pos (by assumption)).trans rfl) rfl (znarI _) (by decide) (by decide) dX8_shrink_83
set_option maxRecDepth 100000 in
set_option maxHeartbeats 4000000 in
theorem ctx_X8_lose {E : Nat × (Nat → Int32)} {μ : Nat → Nat → Int32} {g : Int64} {nc : Nat} (hnc : μ 117 13 = nI nc) (hn12 : nc ≤ 12) {p q r : Int32} (hbad : ¬ (zrg nc p ∧ zrg 24 q ∧ zrg 24 r)) : zCt E kX8_lose [.ref (117), .int (p), .int (q), .int (r)] (zm μ g) (.inl (some (.int (nI 0))), zm ((zu μ 117 0 (nI 1))) g) := by
  refine zCt_of ko_X8_lose (Nat.le_of_ble_eq_true rfl) (zas_r (zas_i (zas_i (zas_i zas_0)))) ⟨Nat.le_refl _, fun h => absurd h (Nat.lt_irrefl _)⟩ (Nat.le_of_ble_eq_true rfl) ?_
  show zV false E kX8_lose 145 _ 0 [.ref (117), .int (p), .int (q), .int (r), .null, .null, .null] [] (zm μ g) 0 0
  refine z_aload_n rfl rfl dX8_lose_0 ?_
  refine z_iload_n rfl rfl dX8_lose_1 ?_
  refine z_callV (as := [.int (p)]) (ctg_X8_isChart hnc hn12 (p)) ko_X8_isChart kl_X8_136 rfl (zl_a rfl rfl) rfl rfl ⟨by decide, by decide, by decide, by decide⟩ (Nat.le_of_ble_eq_true rfl) rfl dX8_lose_2 ?_
  refine z_if_eq 26 (by decide) dX8_lose_5 (z_br zb_0 (fun h1 => ?_)) (z_br zb_n (fun h2 => ?_))
  · refine z_iconst (nI 0) (by decide) dX8_lose_26 ?_
    refine z_istore (by decide) rfl dX8_lose_27 ?_
    refine z_aload_n rfl rfl dX8_lose_29 ?_
    refine z_iload rfl dX8_lose_30 ?_
    refine z_if_ne 39 (by decide) dX8_lose_32 (fun h => absurd h (by decide)) (fun _ => ?_)
    refine z_iconst (nI 1) (by decide) dX8_lose_35 ?_
    refine z_goto 49 (by decide) dX8_lose_36 ?_
    refine m_putI kf_X8_92 (zl_a rfl rfl) rfl dX8_lose_49 ?_
    refine z_iconst (nI 0) (by decide) dX8_lose_52 ?_
    refine z_istore (by decide) rfl dX8_lose_53 ?_
    refine z_iload_n rfl rfl dX8_lose_55 ?_
    refine z_istore (by decide) rfl dX8_lose_56 ?_
    refine z_iload rfl dX8_lose_58 ?_
    refine z_iload_n rfl rfl dX8_lose_60 ?_
    refine z_icmp_gt 149 (by decide) dX8_lose_61 (fun h3 => ?_) (fun h4 => ?_)
    · refine z_iload rfl dX8_lose_149 ?_
      exact z_iret (rfl) rfl (znarI _) (by decide) (by decide) dX8_lose_151
    · refine z_aload_n rfl rfl dX8_lose_64 ?_
      refine m_getI kf_X8_92 (zl_a rfl rfl) rfl dX8_lose_65 ?_
      refine m_eqv (w := nI 1) (rfl) ?_
      refine z_if_ne 149 (by decide) dX8_lose_68 (fun _ => ?_) (fun h => absurd h (by decide))
      refine z_iload rfl dX8_lose_149 ?_
      exact z_iret (rfl) rfl (znarI _) (by decide) (by decide) dX8_lose_151
  · refine z_iload_n rfl rfl dX8_lose_8 ?_
    refine z_callS (as := [.int (q)]) (ctg_X8_isPoint (q)) ko_X8_isPoint kl_X8_113 rfl rfl ⟨by decide, by decide, by decide, by decide⟩ (Nat.le_of_ble_eq_true rfl) rfl dX8_lose_9 ?_
    refine z_if_eq 26 (by decide) dX8_lose_12 (z_br zb_0 (fun h5 => ?_)) (z_br zb_n (fun h6 => ?_))
    · refine z_iconst (nI 0) (by decide) dX8_lose_26 ?_
      refine z_istore (by decide) rfl dX8_lose_27 ?_
      refine z_aload_n rfl rfl dX8_lose_29 ?_
      refine z_iload rfl dX8_lose_30 ?_
      refine z_if_ne 39 (by decide) dX8_lose_32 (fun h => absurd h (by decide)) (fun _ => ?_)
      refine z_iconst (nI 1) (by decide) dX8_lose_35 ?_
      refine z_goto 49 (by decide) dX8_lose_36 ?_
      refine m_putI kf_X8_92 (zl_a rfl rfl) rfl dX8_lose_49 ?_
      refine z_iconst (nI 0) (by decide) dX8_lose_52 ?_
      refine z_istore (by decide) rfl dX8_lose_53 ?_
      refine z_iload_n rfl rfl dX8_lose_55 ?_
      refine z_istore (by decide) rfl dX8_lose_56 ?_
      refine z_iload rfl dX8_lose_58 ?_
      refine z_iload_n rfl rfl dX8_lose_60 ?_
      refine z_icmp_gt 149 (by decide) dX8_lose_61 (fun h7 => ?_) (fun h8 => ?_)
      · refine z_iload rfl dX8_lose_149 ?_
        exact z_iret (rfl) rfl (znarI _) (by decide) (by decide) dX8_lose_151
      · refine z_aload_n rfl rfl dX8_lose_64 ?_
        refine m_getI kf_X8_92 (zl_a rfl rfl) rfl dX8_lose_65 ?_
        refine m_eqv (w := nI 1) (rfl) ?_
        refine z_if_ne 149 (by decide) dX8_lose_68 (fun _ => ?_) (fun h => absurd h (by decide))
        refine z_iload rfl dX8_lose_149 ?_
        exact z_iret (rfl) rfl (znarI _) (by decide) (by decide) dX8_lose_151
    · refine z_iload_n rfl rfl dX8_lose_15 ?_
      refine z_callS (as := [.int (r)]) (ctg_X8_isPoint (r)) ko_X8_isPoint kl_X8_113 rfl rfl ⟨by decide, by decide, by decide, by decide⟩ (Nat.le_of_ble_eq_true rfl) rfl dX8_lose_16 ?_
      refine z_if_eq 26 (by decide) dX8_lose_19 (z_br zb_0 (fun h9 => ?_)) (z_br zb_n (fun h10 => ?_))
      · refine z_iconst (nI 0) (by decide) dX8_lose_26 ?_
        refine z_istore (by decide) rfl dX8_lose_27 ?_
        refine z_aload_n rfl rfl dX8_lose_29 ?_
        refine z_iload rfl dX8_lose_30 ?_
        refine z_if_ne 39 (by decide) dX8_lose_32 (fun h => absurd h (by decide)) (fun _ => ?_)
        refine z_iconst (nI 1) (by decide) dX8_lose_35 ?_
        refine z_goto 49 (by decide) dX8_lose_36 ?_
        refine m_putI kf_X8_92 (zl_a rfl rfl) rfl dX8_lose_49 ?_
        refine z_iconst (nI 0) (by decide) dX8_lose_52 ?_
        refine z_istore (by decide) rfl dX8_lose_53 ?_
        refine z_iload_n rfl rfl dX8_lose_55 ?_
        refine z_istore (by decide) rfl dX8_lose_56 ?_
        refine z_iload rfl dX8_lose_58 ?_
        refine z_iload_n rfl rfl dX8_lose_60 ?_
        refine z_icmp_gt 149 (by decide) dX8_lose_61 (fun h11 => ?_) (fun h12 => ?_)
        · refine z_iload rfl dX8_lose_149 ?_
          exact z_iret (rfl) rfl (znarI _) (by decide) (by decide) dX8_lose_151
        · refine z_aload_n rfl rfl dX8_lose_64 ?_
          refine m_getI kf_X8_92 (zl_a rfl rfl) rfl dX8_lose_65 ?_
          refine m_eqv (w := nI 1) (rfl) ?_
          refine z_if_ne 149 (by decide) dX8_lose_68 (fun _ => ?_) (fun h => absurd h (by decide))
          refine z_iload rfl dX8_lose_149 ?_
          exact z_iret (rfl) rfl (znarI _) (by decide) (by decide) dX8_lose_151
      · exact absurd (by repeat' (first | assumption | apply And.intro)) hbad
set_option maxRecDepth 100000 in
set_option maxHeartbeats 4000000 in
theorem lp_X8_lose {E : Nat × (Nat → Int32)} {g : Int64} {μ : zMu} {c f t : Nat} (hc : c < 12) (hf : f ≤ t) (ht : t < 24) : ∀ (n : Nat) (m : Nat) (s : Int32) (ν : zMu), (t + 1 - f) - m = n → m ≤ (t + 1 - f) → (s, ν) = zit (dlo c) f m (nI 0, μ) → ν 117 0 = nI 0 → zV false E kX8_lose 145 (.inl (some (.int (zit (dlo c) f (t + 1 - f) (nI 0, μ)).1)), zm (zit (dlo c) f (t + 1 - f) (nI 0, μ)).2 g) 58 [.ref (117), .int (nI c), .int (nI f), .int (nI t), .null, .int (s), .int (nI (f + m))] [] (zm ν g) 0 0 := by
  intro n
  induction n using Nat.strongRecOn with
  | ind n ih =>
    intro m s ν hm hle hs hth
    refine z_iload rfl dX8_lose_58 ?_
    refine z_iload_n rfl rfl dX8_lose_60 ?_
    refine z_icmp_gt 149 (by decide) dX8_lose_61 (z_br (zcn (n := t) (by omega) (f + m) (by omega)).2.1 (fun h1 => ?_)) (z_brn (zcn (n := t) (by omega) (f + m) (by omega)).2.1 (fun h2 => ?_))
    · have hmL : m = (t + 1 - f) := by omega
      have hz : zit (dlo c) f ((t + 1 - f)) (nI 0, μ) = (s, ν) := by rw [hs, hmL]
      refine z_iload rfl dX8_lose_149 ?_
      exact z_iret (by rw [hz]) rfl (znarI _) (by decide) (by decide) dX8_lose_151
    · refine z_aload_n rfl rfl dX8_lose_64 ?_
      refine m_getI kf_X8_92 (zl_a rfl rfl) rfl dX8_lose_65 ?_
      refine m_eqv (w := nI 0) (hth) ?_
      refine z_if_ne 149 (by decide) dX8_lose_68 (fun h => absurd h (by decide)) (fun _ => ?_)
      refine z_iload rfl dX8_lose_71 ?_
      refine z_aload_n rfl rfl dX8_lose_73 ?_
      refine m_getR (130) kf_X8_46 (zl_a rfl rfl) rfl rfl (by decide) dX8_lose_74 ?_
      refine z_iload_n rfl rfl dX8_lose_77 ?_
      refine z_iload rfl dX8_lose_78 ?_
      refine z_callS (as := [.int (nI c), .int (nI (f + m))]) (ct_X8_spot (c) (f + m)) ko_X8_spot kl_X8_122 rfl rfl ⟨by decide, by decide, by decide, by decide⟩ (Nat.le_of_ble_eq_true rfl) rfl dX8_lose_80 ?_
      refine m_zald (24 * c + (f + m)) (zl_a rfl rfl) rfl (by omega) (by decide) dX8_lose_83 ?_
      refine z_if_eq 91 (by decide) dX8_lose_84 (fun h3 => ?_) (fun h4 => ?_)
      · refine z_iconst (nI 0) (by decide) dX8_lose_91 ?_
        refine z_iadd dX8_lose_92 ?_
        refine z_istore (by decide) rfl dX8_lose_93 ?_
        refine z_aload_n rfl rfl dX8_lose_95 ?_
        refine m_getR (130) kf_X8_46 (zl_a rfl rfl) rfl rfl (by decide) dX8_lose_96 ?_
        refine z_iload_n rfl rfl dX8_lose_99 ?_
        refine z_iload rfl dX8_lose_100 ?_
        refine z_callS (as := [.int (nI c), .int (nI (f + m))]) (ct_X8_spot (c) (f + m)) ko_X8_spot kl_X8_122 rfl rfl ⟨by decide, by decide, by decide, by decide⟩ (Nat.le_of_ble_eq_true rfl) rfl dX8_lose_102 ?_
        refine z_iconst (nI 0) (by decide) dX8_lose_105 ?_
        refine m_zast (24 * c + (f + m)) (zl_a rfl rfl) rfl (by omega) (by decide) (by decide) dX8_lose_106 ?_
        refine z_aload_n rfl rfl dX8_lose_107 ?_
        refine m_getR (131) kf_X8_50 (zl_a rfl rfl) rfl rfl (by decide) dX8_lose_108 ?_
        refine z_iload_n rfl rfl dX8_lose_111 ?_
        refine z_iload rfl dX8_lose_112 ?_
        refine z_callS (as := [.int (nI c), .int (nI (f + m))]) (ct_X8_spot (c) (f + m)) ko_X8_spot kl_X8_122 rfl rfl ⟨by decide, by decide, by decide, by decide⟩ (Nat.le_of_ble_eq_true rfl) rfl dX8_lose_114 ?_
        refine z_iconst (nI 0) (by decide) dX8_lose_117 ?_
        refine m_iast (24 * c + (f + m)) (zl_a rfl rfl) rfl (by omega) (by decide) dX8_lose_118 ?_
        refine z_aload_n rfl rfl dX8_lose_119 ?_
        refine m_getR (132) kf_X8_53 (zl_a rfl rfl) rfl rfl (by decide) dX8_lose_120 ?_
        refine z_iload_n rfl rfl dX8_lose_123 ?_
        refine z_iload rfl dX8_lose_124 ?_
        refine z_callS (as := [.int (nI c), .int (nI (f + m))]) (ct_X8_spot (c) (f + m)) ko_X8_spot kl_X8_122 rfl rfl ⟨by decide, by decide, by decide, by decide⟩ (Nat.le_of_ble_eq_true rfl) rfl dX8_lose_126 ?_
        refine z_iconst (nI 0) (by decide) dX8_lose_129 ?_
        refine m_iast (24 * c + (f + m)) (zl_a rfl rfl) rfl (by omega) (by decide) dX8_lose_130 ?_
        refine z_aload_n rfl rfl dX8_lose_131 ?_
        refine m_getR (134) kf_X8_59 (zl_a rfl rfl) rfl rfl (by decide) dX8_lose_132 ?_
        refine z_iload_n rfl rfl dX8_lose_135 ?_
        refine z_iload rfl dX8_lose_136 ?_
        refine z_callS (as := [.int (nI c), .int (nI (f + m))]) (ct_X8_spot (c) (f + m)) ko_X8_spot kl_X8_122 rfl rfl ⟨by decide, by decide, by decide, by decide⟩ (Nat.le_of_ble_eq_true rfl) rfl dX8_lose_138 ?_
        refine z_iconst (-1) (by decide) dX8_lose_141 ?_
        refine m_iast (24 * c + (f + m)) (zl_a rfl rfl) rfl (by omega) (by decide) dX8_lose_142 ?_
        refine z_iinc (nI (f + m + 1)) rfl (zinc _) (by decide) rfl dX8_lose_143 ?_
        refine z_goto 58 (by decide) dX8_lose_146 ?_
        exact ih ((t + 1 - f) - (m + 1)) (by omega) (m + 1) (s + (nI 0)) (zu (zu (zu (zu ν (130) (24 * c + (f + m)) (nI 0)) (131) (24 * c + (f + m)) (nI 0)) (132) (24 * c + (f + m)) (nI 0)) (134) (24 * c + (f + m)) (-1)) rfl (by omega) (zst hs (by rw [dlo, if_pos h3])) hth
      · refine z_iconst (nI 1) (by decide) dX8_lose_87 ?_
        refine z_goto 92 (by decide) dX8_lose_88 ?_
        refine z_iadd dX8_lose_92 ?_
        refine z_istore (by decide) rfl dX8_lose_93 ?_
        refine z_aload_n rfl rfl dX8_lose_95 ?_
        refine m_getR (130) kf_X8_46 (zl_a rfl rfl) rfl rfl (by decide) dX8_lose_96 ?_
        refine z_iload_n rfl rfl dX8_lose_99 ?_
        refine z_iload rfl dX8_lose_100 ?_
        refine z_callS (as := [.int (nI c), .int (nI (f + m))]) (ct_X8_spot (c) (f + m)) ko_X8_spot kl_X8_122 rfl rfl ⟨by decide, by decide, by decide, by decide⟩ (Nat.le_of_ble_eq_true rfl) rfl dX8_lose_102 ?_
        refine z_iconst (nI 0) (by decide) dX8_lose_105 ?_
        refine m_zast (24 * c + (f + m)) (zl_a rfl rfl) rfl (by omega) (by decide) (by decide) dX8_lose_106 ?_
        refine z_aload_n rfl rfl dX8_lose_107 ?_
        refine m_getR (131) kf_X8_50 (zl_a rfl rfl) rfl rfl (by decide) dX8_lose_108 ?_
        refine z_iload_n rfl rfl dX8_lose_111 ?_
        refine z_iload rfl dX8_lose_112 ?_
        refine z_callS (as := [.int (nI c), .int (nI (f + m))]) (ct_X8_spot (c) (f + m)) ko_X8_spot kl_X8_122 rfl rfl ⟨by decide, by decide, by decide, by decide⟩ (Nat.le_of_ble_eq_true rfl) rfl dX8_lose_114 ?_
        refine z_iconst (nI 0) (by decide) dX8_lose_117 ?_
        refine m_iast (24 * c + (f + m)) (zl_a rfl rfl) rfl (by omega) (by decide) dX8_lose_118 ?_
        refine z_aload_n rfl rfl dX8_lose_119 ?_
        refine m_getR (132) kf_X8_53 (zl_a rfl rfl) rfl rfl (by decide) dX8_lose_120 ?_
        refine z_iload_n rfl rfl dX8_lose_123 ?_
        refine z_iload rfl dX8_lose_124 ?_
        refine z_callS (as := [.int (nI c), .int (nI (f + m))]) (ct_X8_spot (c) (f + m)) ko_X8_spot kl_X8_122 rfl rfl ⟨by decide, by decide, by decide, by decide⟩ (Nat.le_of_ble_eq_true rfl) rfl dX8_lose_126 ?_
        refine z_iconst (nI 0) (by decide) dX8_lose_129 ?_
        refine m_iast (24 * c + (f + m)) (zl_a rfl rfl) rfl (by omega) (by decide) dX8_lose_130 ?_
        refine z_aload_n rfl rfl dX8_lose_131 ?_
        refine m_getR (134) kf_X8_59 (zl_a rfl rfl) rfl rfl (by decide) dX8_lose_132 ?_
        refine z_iload_n rfl rfl dX8_lose_135 ?_
        refine z_iload rfl dX8_lose_136 ?_
        refine z_callS (as := [.int (nI c), .int (nI (f + m))]) (ct_X8_spot (c) (f + m)) ko_X8_spot kl_X8_122 rfl rfl ⟨by decide, by decide, by decide, by decide⟩ (Nat.le_of_ble_eq_true rfl) rfl dX8_lose_138 ?_
        refine z_iconst (-1) (by decide) dX8_lose_141 ?_
        refine m_iast (24 * c + (f + m)) (zl_a rfl rfl) rfl (by omega) (by decide) dX8_lose_142 ?_
        refine z_iinc (nI (f + m + 1)) rfl (zinc _) (by decide) rfl dX8_lose_143 ?_
        refine z_goto 58 (by decide) dX8_lose_146 ?_
        exact ih ((t + 1 - f) - (m + 1)) (by omega) (m + 1) (s + (nI 1)) (zu (zu (zu (zu ν (130) (24 * c + (f + m)) (nI 0)) (131) (24 * c + (f + m)) (nI 0)) (132) (24 * c + (f + m)) (nI 0)) (134) (24 * c + (f + m)) (-1)) rfl (by omega) (zst hs (by rw [dlo, if_neg h4])) hth
set_option maxRecDepth 100000 in
set_option maxHeartbeats 4000000 in
theorem ct_X8_lose {E : Nat × (Nat → Int32)} {μ : Nat → Nat → Int32} {g : Int64} {nc : Nat} (hnc : μ 117 13 = nI nc) (hn12 : nc ≤ 12) {c f t : Nat} (hc : c < nc) (hf : f < 24) (ht : t < 24)  : zCt E kX8_lose [.ref (117), .int (nI c), .int (nI f), .int (nI t)] (zm μ g) (if t < f then (.inl (some (.int (nI 0))), zm ((zu μ 117 0 (nI 2))) g) else (.inl (some (.int ((zit (dlo c) f (t + 1 - f) (nI 0, (zu μ 117 0 (nI 0)))).1))), zm ((zit (dlo c) f (t + 1 - f) (nI 0, (zu μ 117 0 (nI 0)))).2) g) : zO) := by
  refine zCt_of ko_X8_lose (Nat.le_of_ble_eq_true rfl) (zas_r (zas_i (zas_i (zas_i zas_0)))) (zMM (zifn rfl rfl)) (Nat.le_of_ble_eq_true rfl) ?_
  show zV false E kX8_lose 145 _ 0 [.ref (117), .int (nI c), .int (nI f), .int (nI t), .null, .null, .null] [] (zm μ g) 0 0
  refine z_aload_n rfl rfl dX8_lose_0 ?_
  refine z_iload_n rfl rfl dX8_lose_1 ?_
  refine z_callV (as := [.int (nI c)]) (ct_X8_isChart hnc hn12 (j := c) (by omega)) ko_X8_isChart kl_X8_136 rfl (zl_a rfl rfl) rfl rfl ⟨by decide, by decide, by decide, by decide⟩ (Nat.le_of_ble_eq_true rfl) rfl dX8_lose_2 ?_
  refine z_if_eq 26 (by decide) dX8_lose_5 (fun h => absurd h (by decide)) (fun _ => ?_)
  refine z_iload_n rfl rfl dX8_lose_8 ?_
  refine z_callS (as := [.int (nI f)]) (ct_X8_isPoint (j := f) (by omega)) ko_X8_isPoint kl_X8_113 rfl rfl ⟨by decide, by decide, by decide, by decide⟩ (Nat.le_of_ble_eq_true rfl) rfl dX8_lose_9 ?_
  refine z_if_eq 26 (by decide) dX8_lose_12 (fun h => absurd h (by decide)) (fun _ => ?_)
  refine z_iload_n rfl rfl dX8_lose_15 ?_
  refine z_callS (as := [.int (nI t)]) (ct_X8_isPoint (j := t) (by omega)) ko_X8_isPoint kl_X8_113 rfl rfl ⟨by decide, by decide, by decide, by decide⟩ (Nat.le_of_ble_eq_true rfl) rfl dX8_lose_16 ?_
  refine z_if_eq 26 (by decide) dX8_lose_19 (fun h => absurd h (by decide)) (fun _ => ?_)
  refine z_iconst (nI 1) (by decide) dX8_lose_22 ?_
  refine z_goto 27 (by decide) dX8_lose_23 ?_
  refine z_istore (by decide) rfl dX8_lose_27 ?_
  refine z_aload_n rfl rfl dX8_lose_29 ?_
  refine z_iload rfl dX8_lose_30 ?_
  refine z_if_ne 39 (by decide) dX8_lose_32 (fun _ => ?_) (fun h => absurd h (by decide))
  refine z_iload_n rfl rfl dX8_lose_39 ?_
  refine z_iload_n rfl rfl dX8_lose_40 ?_
  refine z_icmp_ge 48 (by decide) dX8_lose_41 (z_br (zcn (n := f) (by omega) (t) (by omega)).2.2 (fun h1 => ?_)) (z_brn (zcn (n := f) (by omega) (t) (by omega)).2.2 (fun h2 => ?_))
  · refine z_iconst (nI 0) (by decide) dX8_lose_48 ?_
    refine m_putI kf_X8_92 (zl_a rfl rfl) rfl dX8_lose_49 ?_
    refine z_iconst (nI 0) (by decide) dX8_lose_52 ?_
    refine z_istore (by decide) rfl dX8_lose_53 ?_
    refine z_iload_n rfl rfl dX8_lose_55 ?_
    refine z_istore (by decide) rfl dX8_lose_56 ?_
    refine z_oeq ((if_neg (by omega)).trans rfl) ?_
    refine z_fgt [.ref (117), .int (nI c), .int (nI f), .int (nI t), .null, .int (nI 0), .int (nI f)] ⟨Or.inl rfl, ⟨Or.inl rfl, ⟨Or.inl rfl, ⟨Or.inl rfl, ⟨Or.inr rfl, ⟨Or.inl rfl, ⟨Or.inl rfl, trivial⟩⟩⟩⟩⟩⟩⟩ ?_
    exact lp_X8_lose (μ := (zu μ 117 0 (nI 0))) (c := c) (f := f) (t := t) (by omega) (by omega) (by omega) _ 0 _ _ rfl (Nat.zero_le _) rfl rfl
  · refine z_iconst (nI 2) (by decide) dX8_lose_44 ?_
    refine z_goto 49 (by decide) dX8_lose_45 ?_
    refine m_putI kf_X8_92 (zl_a rfl rfl) rfl dX8_lose_49 ?_
    refine z_iconst (nI 0) (by decide) dX8_lose_52 ?_
    refine z_istore (by decide) rfl dX8_lose_53 ?_
    refine z_iload_n rfl rfl dX8_lose_55 ?_
    refine z_istore (by decide) rfl dX8_lose_56 ?_
    refine z_iload rfl dX8_lose_58 ?_
    refine z_iload_n rfl rfl dX8_lose_60 ?_
    refine z_icmp_gt 149 (by decide) dX8_lose_61 (z_br (zcn (n := t) (by omega) (f) (by omega)).2.1 (fun h3 => ?_)) (z_brn (zcn (n := t) (by omega) (f) (by omega)).2.1 (fun h4 => ?_))
    · refine z_iload rfl dX8_lose_149 ?_
      exact z_iret ((if_pos (by omega)).trans rfl) rfl (znarI _) (by decide) (by decide) dX8_lose_151
    · refine z_aload_n rfl rfl dX8_lose_64 ?_
      refine m_getI kf_X8_92 (zl_a rfl rfl) rfl dX8_lose_65 ?_
      refine m_eqv (w := nI 2) (rfl) ?_
      refine z_if_ne 149 (by decide) dX8_lose_68 (fun _ => ?_) (fun h => absurd h (by decide))
      refine z_iload rfl dX8_lose_149 ?_
      exact z_iret ((if_pos (by omega)).trans rfl) rfl (znarI _) (by decide) (by decide) dX8_lose_151
set_option maxRecDepth 100000 in
set_option maxHeartbeats 4000000 in
theorem ctx_X8_of {E : Nat × (Nat → Int32)} {μ : Nat → Nat → Int32} {g : Int64} {nc : Nat} (hnc : μ 117 13 = nI nc) (hn12 : nc ≤ 12) {p w : Int32} (hbad : ¬ (zrg nc p)) : zCt E kX8_of [.ref (117), .int (p), .int (w)] (zm μ g) (.inl (some (.int (nI 0))), zm ((zu μ 117 0 (nI 1))) g) := by
  refine zCt_of ko_X8_of (Nat.le_of_ble_eq_true rfl) (zas_r (zas_i (zas_i zas_0))) ⟨Nat.le_refl _, fun h => absurd h (Nat.lt_irrefl _)⟩ (Nat.le_of_ble_eq_true rfl) ?_
  show zV false E kX8_of 145 _ 0 [.ref (117), .int (p), .int (w), .null, .null, .null, .null] [] (zm μ g) 0 0
  refine z_aload_n rfl rfl dX8_of_0 ?_
  refine z_aload_n rfl rfl dX8_of_1 ?_
  refine z_iload_n rfl rfl dX8_of_2 ?_
  refine z_callV (as := [.int (p)]) (ctg_X8_isChart hnc hn12 (p)) ko_X8_isChart kl_X8_136 rfl (zl_a rfl rfl) rfl rfl ⟨by decide, by decide, by decide, by decide⟩ (Nat.le_of_ble_eq_true rfl) rfl dX8_of_3 ?_
  refine z_if_ne 13 (by decide) dX8_of_6 (z_br zb_n (fun h1 => ?_)) (z_br zb_0 (fun h2 => ?_))
  · exact absurd (by repeat' (first | assumption | apply And.intro)) hbad
  · refine z_iconst (nI 1) (by decide) dX8_of_9 ?_
    refine z_goto 28 (by decide) dX8_of_10 ?_
    refine m_putI kf_X8_92 (zl_a rfl rfl) rfl dX8_of_28 ?_
    refine z_aload_n rfl rfl dX8_of_31 ?_
    refine m_getI kf_X8_92 (zl_a rfl rfl) rfl dX8_of_32 ?_
    refine m_eqv (w := nI 1) (rfl) ?_
    refine z_if_le 40 (by decide) dX8_of_35 (fun h => absurd h (by decide)) (fun _ => ?_)
    refine z_iconst (nI 0) (by decide) dX8_of_38 ?_
    exact z_iret (rfl) rfl (znarI _) (by decide) (by decide) dX8_of_39
set_option maxRecDepth 100000 in
set_option maxHeartbeats 4000000 in
theorem cta_X8_of {E : Nat × (Nat → Int32)} {μ : Nat → Nat → Int32} {g : Int64} {nc : Nat} (hnc : μ 117 13 = nI nc) (hn12 : nc ≤ 12) {c : Nat} (hc : c < nc) {w : Int32} (hw : ¬ zrg 7 w)  : zCt E kX8_of [.ref (117), .int (nI c), .int (w)] (zm μ g) ((.inl (some (.int (nI 0))), zm (zu μ 117 0 (nI 2)) g) : zO) := by
  refine zCt_of ko_X8_of (Nat.le_of_ble_eq_true rfl) (zas_r (zas_i (zas_i zas_0))) ⟨Nat.le_refl _, fun h => absurd h (Nat.lt_irrefl _)⟩ (Nat.le_of_ble_eq_true rfl) ?_
  show zV false E kX8_of 145 _ 0 [.ref (117), .int (nI c), .int (w), .null, .null, .null, .null] [] (zm μ g) 0 0
  refine z_aload_n rfl rfl dX8_of_0 ?_
  refine z_aload_n rfl rfl dX8_of_1 ?_
  refine z_iload_n rfl rfl dX8_of_2 ?_
  refine z_callV (as := [.int (nI c)]) (ct_X8_isChart hnc hn12 (j := c) (by omega)) ko_X8_isChart kl_X8_136 rfl (zl_a rfl rfl) rfl rfl ⟨by decide, by decide, by decide, by decide⟩ (Nat.le_of_ble_eq_true rfl) rfl dX8_of_3 ?_
  refine z_if_ne 13 (by decide) dX8_of_6 (fun _ => ?_) (fun h => absurd h (by decide))
  refine z_iload_n rfl rfl dX8_of_13 ?_
  refine z_iconst (nI 0) (by decide) dX8_of_14 ?_
  refine z_bipush (nI 6) (by decide) dX8_of_15 ?_
  refine z_callS (as := [.int (w), .int (nI 0), .int (nI 6)]) (ct_X8_isInZ (w) 6 (by decide)) ko_X8_isIn kl_X8_96 rfl rfl ⟨by decide, by decide, by decide, by decide⟩ (Nat.le_of_ble_eq_true rfl) rfl dX8_of_17 ?_
  refine z_if_ne 27 (by decide) dX8_of_20 (z_br zb_n (fun h1 => ?_)) (z_br zb_0 (fun h2 => ?_))
  · exact absurd (by assumption) hw
  · refine z_iconst (nI 2) (by decide) dX8_of_23 ?_
    refine z_goto 28 (by decide) dX8_of_24 ?_
    refine m_putI kf_X8_92 (zl_a rfl rfl) rfl dX8_of_28 ?_
    refine z_aload_n rfl rfl dX8_of_31 ?_
    refine m_getI kf_X8_92 (zl_a rfl rfl) rfl dX8_of_32 ?_
    refine m_eqv (w := nI 2) (rfl) ?_
    refine z_if_le 40 (by decide) dX8_of_35 (fun h => absurd h (by decide)) (fun _ => ?_)
    refine z_iconst (nI 0) (by decide) dX8_of_38 ?_
    exact z_iret (rfl) rfl (znarI _) (by decide) (by decide) dX8_of_39
set_option maxRecDepth 100000 in
set_option maxHeartbeats 4000000 in
theorem lp1_X8_of {E : Nat × (Nat → Int32)} {g : Int64} {μ : zMu} {c w : Nat} (hc : c < 12) (hw : w < 7) {O : zO} (kk : zV false E kX8_of 145 O 116 [.ref (117), .int (nI c), .int (nI w), .int ((zit (dof μ c) 0 24 (nI 0, nI 0)).1), .int ((zit (dof μ c) 0 24 (nI 0, nI 0)).2), .null, .null] [] (zm μ g) 0 0) : ∀ (n : Nat) (m : Nat) (s : Int32) (t : Int32), 24 - m = n → m ≤ 24 → (s, t) = zit (dof μ c) 0 m (nI 0, nI 0) → zV false E kX8_of 145 O 48 [.ref (117), .int (nI c), .int (nI w), .int (s), .int (t), .int (nI m), .null] [] (zm μ g) 0 0 := by
  intro n
  induction n using Nat.strongRecOn with
  | ind n ih =>
    intro m s t hm hle hs 
    refine z_iload rfl dX8_of_48 ?_
    refine z_bipush (nI 24) (by decide) dX8_of_50 ?_
    refine z_icmp_ge 116 (by decide) dX8_of_52 (z_br (zcn (n := 24) (by omega) (m) (by omega)).2.2 (fun h1 => ?_)) (z_brn (zcn (n := 24) (by omega) (m) (by omega)).2.2 (fun h2 => ?_))
    · have hmL : m = 24 := by omega
      have hz : zit (dof μ c) 0 24 (nI 0, nI 0) = (s, t) := by rw [hs, hmL]
      rw [hz] at kk
      refine z_fgt [.ref (117), .int (nI c), .int (nI w), .int (s), .int (t), .null, .null] ⟨Or.inl rfl, ⟨Or.inl rfl, ⟨Or.inl rfl, ⟨Or.inl rfl, ⟨Or.inl rfl, ⟨Or.inr rfl, ⟨Or.inl rfl, trivial⟩⟩⟩⟩⟩⟩⟩ ?_
      exact kk
    · refine z_iload_n rfl rfl dX8_of_55 ?_
      refine z_aload_n rfl rfl dX8_of_56 ?_
      refine m_getR (130) kf_X8_46 (zl_a rfl rfl) rfl rfl (by decide) dX8_of_57 ?_
      refine z_bipush (nI 24) (by decide) dX8_of_60 ?_
      refine z_iload_n rfl rfl dX8_of_62 ?_
      refine m_mulN dX8_of_63 ?_
      refine z_iload rfl dX8_of_64 ?_
      refine m_addN dX8_of_66 ?_
      refine m_zald ((24 * c) + m) (zl_a rfl rfl) rfl (by omega) (by decide) dX8_of_67 ?_
      refine z_if_eq 75 (by decide) dX8_of_68 (fun h3 => ?_) (fun h4 => ?_)
      · refine z_iconst (nI 0) (by decide) dX8_of_75 ?_
        refine z_iadd dX8_of_76 ?_
        refine z_istore_n rfl (by decide) rfl dX8_of_77 ?_
        refine z_iload rfl dX8_of_78 ?_
        refine z_aload_n rfl rfl dX8_of_80 ?_
        refine m_getR (133) kf_X8_56 (zl_a rfl rfl) rfl rfl (by decide) dX8_of_81 ?_
        refine z_bipush (nI 24) (by decide) dX8_of_84 ?_
        refine z_iload_n rfl rfl dX8_of_86 ?_
        refine m_mulN dX8_of_87 ?_
        refine z_iload rfl dX8_of_88 ?_
        refine m_addN dX8_of_90 ?_
        refine m_iald ((24 * c) + m) (zl_a rfl rfl) rfl (by omega) (by decide) dX8_of_91 ?_
        refine z_aload_n rfl rfl dX8_of_92 ?_
        refine m_getR (120) kf_X8_16 (zl_a rfl rfl) rfl rfl (by decide) dX8_of_93 ?_
        refine z_iload rfl dX8_of_96 ?_
        refine m_iald (m) (zl_a rfl rfl) rfl (by omega) (by decide) dX8_of_98 ?_
        refine z_icmp_eq 106 (by decide) dX8_of_99 (fun h5 => ?_) (fun h6 => ?_)
        · refine z_iconst (nI 0) (by decide) dX8_of_106 ?_
          refine z_iadd dX8_of_107 ?_
          refine z_istore (by decide) rfl dX8_of_108 ?_
          refine z_iinc (nI (m + 1)) rfl (zinc _) (by decide) rfl dX8_of_110 ?_
          refine z_goto 48 (by decide) dX8_of_113 ?_
          exact ih (24 - (m + 1)) (by omega) (m + 1) (s + (nI 0)) (t + (nI 0)) rfl (by omega) (zst0 hs (by rw [dof, if_pos h3, if_pos h5]))
        · refine z_iconst (nI 1) (by decide) dX8_of_102 ?_
          refine z_goto 107 (by decide) dX8_of_103 ?_
          refine z_iadd dX8_of_107 ?_
          refine z_istore (by decide) rfl dX8_of_108 ?_
          refine z_iinc (nI (m + 1)) rfl (zinc _) (by decide) rfl dX8_of_110 ?_
          refine z_goto 48 (by decide) dX8_of_113 ?_
          exact ih (24 - (m + 1)) (by omega) (m + 1) (s + (nI 0)) (t + (nI 1)) rfl (by omega) (zst0 hs (by rw [dof, if_pos h3, if_neg h6]))
      · refine z_iconst (nI 1) (by decide) dX8_of_71 ?_
        refine z_goto 76 (by decide) dX8_of_72 ?_
        refine z_iadd dX8_of_76 ?_
        refine z_istore_n rfl (by decide) rfl dX8_of_77 ?_
        refine z_iload rfl dX8_of_78 ?_
        refine z_aload_n rfl rfl dX8_of_80 ?_
        refine m_getR (133) kf_X8_56 (zl_a rfl rfl) rfl rfl (by decide) dX8_of_81 ?_
        refine z_bipush (nI 24) (by decide) dX8_of_84 ?_
        refine z_iload_n rfl rfl dX8_of_86 ?_
        refine m_mulN dX8_of_87 ?_
        refine z_iload rfl dX8_of_88 ?_
        refine m_addN dX8_of_90 ?_
        refine m_iald ((24 * c) + m) (zl_a rfl rfl) rfl (by omega) (by decide) dX8_of_91 ?_
        refine z_aload_n rfl rfl dX8_of_92 ?_
        refine m_getR (120) kf_X8_16 (zl_a rfl rfl) rfl rfl (by decide) dX8_of_93 ?_
        refine z_iload rfl dX8_of_96 ?_
        refine m_iald (m) (zl_a rfl rfl) rfl (by omega) (by decide) dX8_of_98 ?_
        refine z_icmp_eq 106 (by decide) dX8_of_99 (fun h7 => ?_) (fun h8 => ?_)
        · refine z_iconst (nI 0) (by decide) dX8_of_106 ?_
          refine z_iadd dX8_of_107 ?_
          refine z_istore (by decide) rfl dX8_of_108 ?_
          refine z_iinc (nI (m + 1)) rfl (zinc _) (by decide) rfl dX8_of_110 ?_
          refine z_goto 48 (by decide) dX8_of_113 ?_
          exact ih (24 - (m + 1)) (by omega) (m + 1) (s + (nI 1)) (t + (nI 0)) rfl (by omega) (zst0 hs (by rw [dof, if_neg h4, if_pos h7]))
        · refine z_iconst (nI 1) (by decide) dX8_of_102 ?_
          refine z_goto 107 (by decide) dX8_of_103 ?_
          refine z_iadd dX8_of_107 ?_
          refine z_istore (by decide) rfl dX8_of_108 ?_
          refine z_iinc (nI (m + 1)) rfl (zinc _) (by decide) rfl dX8_of_110 ?_
          refine z_goto 48 (by decide) dX8_of_113 ?_
          exact ih (24 - (m + 1)) (by omega) (m + 1) (s + (nI 1)) (t + (nI 1)) rfl (by omega) (zst0 hs (by rw [dof, if_neg h4, if_neg h8]))
set_option maxRecDepth 100000 in
set_option maxHeartbeats 4000000 in
theorem lp2_X8_of {E : Nat × (Nat → Int32)} {g : Int64} {μ : zMu} {c w ni : Nat} (hc : c < 12) (hw : w < 7) (hni : μ 117 23 = nI ni) (hi20 : ni ≤ 20) {s t : Int32} {O : zO} (kk : zV false E kX8_of 145 O 162 [.ref (117), .int (nI c), .int (nI w), .int (s), .int (t), .int (zit (ddr μ c) 0 ni (nI 0)), .null] [] (zm μ g) 0 0) : ∀ (n : Nat) (m : Nat) (d : Int32), ni - m = n → m ≤ ni → d = zit (ddr μ c) 0 m (nI 0) → zV false E kX8_of 145 O 122 [.ref (117), .int (nI c), .int (nI w), .int (s), .int (t), .int (d), .int (nI m)] [] (zm μ g) 0 0 := by
  intro n
  induction n using Nat.strongRecOn with
  | ind n ih =>
    intro m d hm hle hs 
    refine z_iload rfl dX8_of_122 ?_
    refine z_aload_n rfl rfl dX8_of_124 ?_
    refine m_getI kf_X8_103 (zl_a rfl rfl) rfl dX8_of_125 ?_
    refine m_eqv (w := nI ni) (hni) ?_
    refine z_icmp_ge 162 (by decide) dX8_of_128 (z_br (zcn (n := ni) (by omega) (m) (by omega)).2.2 (fun h1 => ?_)) (z_brn (zcn (n := ni) (by omega) (m) (by omega)).2.2 (fun h2 => ?_))
    · have hmL : m = ni := by omega
      have hz : zit (ddr μ c) 0 ni (nI 0) = d := by rw [hs, hmL]
      rw [hz] at kk
      refine z_fgt [.ref (117), .int (nI c), .int (nI w), .int (s), .int (t), .int (d), .null] ⟨Or.inl rfl, ⟨Or.inl rfl, ⟨Or.inl rfl, ⟨Or.inl rfl, ⟨Or.inl rfl, ⟨Or.inl rfl, ⟨Or.inr rfl, trivial⟩⟩⟩⟩⟩⟩⟩ ?_
      exact kk
    · refine z_iload rfl dX8_of_131 ?_
      refine z_aload_n rfl rfl dX8_of_133 ?_
      refine m_getR (140) kf_X8_77 (zl_a rfl rfl) rfl rfl (by decide) dX8_of_134 ?_
      refine z_bipush (nI 20) (by decide) dX8_of_137 ?_
      refine z_iload_n rfl rfl dX8_of_139 ?_
      refine m_mulN dX8_of_140 ?_
      refine z_iload rfl dX8_of_141 ?_
      refine m_addN dX8_of_143 ?_
      refine m_zald ((20 * c) + m) (zl_a rfl rfl) rfl (by omega) (by decide) dX8_of_144 ?_
      refine z_if_eq 152 (by decide) dX8_of_145 (fun h3 => ?_) (fun h4 => ?_)
      · refine z_iconst (nI 0) (by decide) dX8_of_152 ?_
        refine z_iadd dX8_of_153 ?_
        refine z_istore (by decide) rfl dX8_of_154 ?_
        refine z_iinc (nI (m + 1)) rfl (zinc _) (by decide) rfl dX8_of_156 ?_
        refine z_goto 122 (by decide) dX8_of_159 ?_
        exact ih (ni - (m + 1)) (by omega) (m + 1) (d + (nI 0)) rfl (by omega) (zst0 hs (by rw [ddr, if_pos h3]))
      · refine z_iconst (nI 1) (by decide) dX8_of_148 ?_
        refine z_goto 153 (by decide) dX8_of_149 ?_
        refine z_iadd dX8_of_153 ?_
        refine z_istore (by decide) rfl dX8_of_154 ?_
        refine z_iinc (nI (m + 1)) rfl (zinc _) (by decide) rfl dX8_of_156 ?_
        refine z_goto 122 (by decide) dX8_of_159 ?_
        exact ih (ni - (m + 1)) (by omega) (m + 1) (d + (nI 1)) rfl (by omega) (zst0 hs (by rw [ddr, if_neg h4]))
set_option maxRecDepth 100000 in
set_option maxHeartbeats 4000000 in
theorem ct_X8_of {E : Nat × (Nat → Int32)} {μ : Nat → Nat → Int32} {g : Int64} {nc : Nat} (hnc : μ 117 13 = nI nc) (hn12 : nc ≤ 12) {ni : Nat} (hni : μ 117 23 = nI ni) (hi20 : ni ≤ 20) {c w : Nat} (hc : c < nc) (hw : w < 7)  : zCt E kX8_of [.ref (117), .int (nI c), .int (nI w)] (zm μ g) ((.inl (some (.int (zof8 (zu μ 117 0 (nI 0)) c ni w))), zm (zu μ 117 0 (nI 0)) g) : zO) := by
  refine zCt_of ko_X8_of (Nat.le_of_ble_eq_true rfl) (zas_r (zas_i (zas_i zas_0))) ⟨Nat.le_refl _, fun h => absurd h (Nat.lt_irrefl _)⟩ (Nat.le_of_ble_eq_true rfl) ?_
  show zV false E kX8_of 145 _ 0 [.ref (117), .int (nI c), .int (nI w), .null, .null, .null, .null] [] (zm μ g) 0 0
  refine z_aload_n rfl rfl dX8_of_0 ?_
  refine z_aload_n rfl rfl dX8_of_1 ?_
  refine z_iload_n rfl rfl dX8_of_2 ?_
  refine z_callV (as := [.int (nI c)]) (ct_X8_isChart hnc hn12 (j := c) (by omega)) ko_X8_isChart kl_X8_136 rfl (zl_a rfl rfl) rfl rfl ⟨by decide, by decide, by decide, by decide⟩ (Nat.le_of_ble_eq_true rfl) rfl dX8_of_3 ?_
  refine z_if_ne 13 (by decide) dX8_of_6 (fun _ => ?_) (fun h => absurd h (by decide))
  refine z_iload_n rfl rfl dX8_of_13 ?_
  refine z_iconst (nI 0) (by decide) dX8_of_14 ?_
  refine z_bipush (nI 6) (by decide) dX8_of_15 ?_
  refine z_callS (as := [.int (nI w), .int (nI 0), .int (nI 6)]) (ct_X8_isInN (l := 0) (j := w) (h := 6) (by omega) (by omega) (by omega)) ko_X8_isIn kl_X8_96 rfl rfl ⟨by decide, by decide, by decide, by decide⟩ (Nat.le_of_ble_eq_true rfl) rfl dX8_of_17 ?_
  refine z_if_ne 27 (by decide) dX8_of_20 (fun _ => ?_) (fun h => absurd h (by decide))
  refine z_iconst (nI 0) (by decide) dX8_of_27 ?_
  refine m_putI kf_X8_92 (zl_a rfl rfl) rfl dX8_of_28 ?_
  refine z_aload_n rfl rfl dX8_of_31 ?_
  refine m_getI kf_X8_92 (zl_a rfl rfl) rfl dX8_of_32 ?_
  refine m_eqv (w := nI 0) (rfl) ?_
  refine z_if_le 40 (by decide) dX8_of_35 (fun _ => ?_) (fun h => absurd h (by decide))
  refine z_iconst (nI 0) (by decide) dX8_of_40 ?_
  refine z_istore_n rfl (by decide) rfl dX8_of_41 ?_
  refine z_iconst (nI 0) (by decide) dX8_of_42 ?_
  refine z_istore (by decide) rfl dX8_of_43 ?_
  refine z_iconst (nI 0) (by decide) dX8_of_45 ?_
  refine z_istore (by decide) rfl dX8_of_46 ?_
  refine lp1_X8_of (μ := (zu μ 117 0 (nI 0))) (c := c) (w := w) (by omega) (by omega) ?_ _ 0 _ _ rfl (Nat.zero_le _) rfl
  refine z_iconst (nI 0) (by decide) dX8_of_116 ?_
  refine z_istore (by decide) rfl dX8_of_117 ?_
  refine z_iconst (nI 0) (by decide) dX8_of_119 ?_
  refine z_istore (by decide) rfl dX8_of_120 ?_
  refine lp2_X8_of (μ := (zu μ 117 0 (nI 0))) (c := c) (w := w) (ni := ni) (by omega) (by omega) hni hi20 ?_ _ 0 _ rfl (Nat.zero_le _) rfl
  have hws : w = 0 ∨ w = 1 ∨ w = 2 ∨ w = 3 ∨ w = 4 ∨ w = 5 ∨ w = 6 := by omega
  rcases hws with rfl | rfl | rfl | rfl | rfl | rfl | rfl
  · refine z_iload_n rfl rfl dX8_of_162 ?_
    refine z_if_ne 175 (by decide) dX8_of_163 (fun h => absurd h (by decide)) (fun _ => ?_)
    refine z_aload_n rfl rfl dX8_of_166 ?_
    refine m_getR (128) kf_X8_40 (zl_a rfl rfl) rfl rfl (by decide) dX8_of_167 ?_
    refine z_iload_n rfl rfl dX8_of_170 ?_
    refine m_iald (c) (zl_a rfl rfl) rfl (by omega) (by decide) dX8_of_171 ?_
    refine z_goto 217 (by decide) dX8_of_172 ?_
    exact z_iret (rfl) rfl (znarI _) (by decide) (by decide) dX8_of_217
  · refine z_iload_n rfl rfl dX8_of_162 ?_
    refine z_if_ne 175 (by decide) dX8_of_163 (fun _ => ?_) (fun h => absurd h (by decide))
    refine z_iload_n rfl rfl dX8_of_175 ?_
    refine z_iconst (nI 1) (by decide) dX8_of_176 ?_
    refine z_icmp_ne 184 (by decide) dX8_of_177 (fun h => absurd h (by decide)) (fun _ => ?_)
    refine z_iload_n rfl rfl dX8_of_180 ?_
    refine z_goto 217 (by decide) dX8_of_181 ?_
    exact z_iret (rfl) rfl (znarI _) (by decide) (by decide) dX8_of_217
  · refine z_iload_n rfl rfl dX8_of_162 ?_
    refine z_if_ne 175 (by decide) dX8_of_163 (fun _ => ?_) (fun h => absurd h (by decide))
    refine z_iload_n rfl rfl dX8_of_175 ?_
    refine z_iconst (nI 1) (by decide) dX8_of_176 ?_
    refine z_icmp_ne 184 (by decide) dX8_of_177 (fun _ => ?_) (fun h => absurd h (by decide))
    refine z_iload_n rfl rfl dX8_of_184 ?_
    refine z_iconst (nI 2) (by decide) dX8_of_185 ?_
    refine z_icmp_ne 194 (by decide) dX8_of_186 (fun h => absurd h (by decide)) (fun _ => ?_)
    refine z_iload rfl dX8_of_189 ?_
    refine z_goto 217 (by decide) dX8_of_191 ?_
    exact z_iret (rfl) rfl (znarI _) (by decide) (by decide) dX8_of_217
  · refine z_iload_n rfl rfl dX8_of_162 ?_
    refine z_if_ne 175 (by decide) dX8_of_163 (fun _ => ?_) (fun h => absurd h (by decide))
    refine z_iload_n rfl rfl dX8_of_175 ?_
    refine z_iconst (nI 1) (by decide) dX8_of_176 ?_
    refine z_icmp_ne 184 (by decide) dX8_of_177 (fun _ => ?_) (fun h => absurd h (by decide))
    refine z_iload_n rfl rfl dX8_of_184 ?_
    refine z_iconst (nI 2) (by decide) dX8_of_185 ?_
    refine z_icmp_ne 194 (by decide) dX8_of_186 (fun _ => ?_) (fun h => absurd h (by decide))
    refine z_iload_n rfl rfl dX8_of_194 ?_
    refine z_bipush (nI 6) (by decide) dX8_of_195 ?_
    refine z_icmp_ne 205 (by decide) dX8_of_197 (fun _ => ?_) (fun h => absurd h (by decide))
    refine z_aload_n rfl rfl dX8_of_205 ?_
    refine m_getR (129) kf_X8_43 (zl_a rfl rfl) rfl rfl (by decide) dX8_of_206 ?_
    refine z_iconst (nI 3) (by decide) dX8_of_209 ?_
    refine z_iload_n rfl rfl dX8_of_210 ?_
    refine m_mulN dX8_of_211 ?_
    refine z_iload_n rfl rfl dX8_of_212 ?_
    refine m_addN dX8_of_213 ?_
    refine z_iconst (nI 3) (by decide) dX8_of_214 ?_
    refine m_subN (by omega) dX8_of_215 ?_
    refine m_iald (((3 * c) + 3) - 3) (zl_a rfl rfl) rfl (by omega) (by decide) dX8_of_216 ?_
    exact z_iret (rfl) rfl (znarI _) (by decide) (by decide) dX8_of_217
  · refine z_iload_n rfl rfl dX8_of_162 ?_
    refine z_if_ne 175 (by decide) dX8_of_163 (fun _ => ?_) (fun h => absurd h (by decide))
    refine z_iload_n rfl rfl dX8_of_175 ?_
    refine z_iconst (nI 1) (by decide) dX8_of_176 ?_
    refine z_icmp_ne 184 (by decide) dX8_of_177 (fun _ => ?_) (fun h => absurd h (by decide))
    refine z_iload_n rfl rfl dX8_of_184 ?_
    refine z_iconst (nI 2) (by decide) dX8_of_185 ?_
    refine z_icmp_ne 194 (by decide) dX8_of_186 (fun _ => ?_) (fun h => absurd h (by decide))
    refine z_iload_n rfl rfl dX8_of_194 ?_
    refine z_bipush (nI 6) (by decide) dX8_of_195 ?_
    refine z_icmp_ne 205 (by decide) dX8_of_197 (fun _ => ?_) (fun h => absurd h (by decide))
    refine z_aload_n rfl rfl dX8_of_205 ?_
    refine m_getR (129) kf_X8_43 (zl_a rfl rfl) rfl rfl (by decide) dX8_of_206 ?_
    refine z_iconst (nI 3) (by decide) dX8_of_209 ?_
    refine z_iload_n rfl rfl dX8_of_210 ?_
    refine m_mulN dX8_of_211 ?_
    refine z_iload_n rfl rfl dX8_of_212 ?_
    refine m_addN dX8_of_213 ?_
    refine z_iconst (nI 3) (by decide) dX8_of_214 ?_
    refine m_subN (by omega) dX8_of_215 ?_
    refine m_iald (((3 * c) + 4) - 3) (zl_a rfl rfl) rfl (by omega) (by decide) dX8_of_216 ?_
    exact z_iret (rfl) rfl (znarI _) (by decide) (by decide) dX8_of_217
  · refine z_iload_n rfl rfl dX8_of_162 ?_
    refine z_if_ne 175 (by decide) dX8_of_163 (fun _ => ?_) (fun h => absurd h (by decide))
    refine z_iload_n rfl rfl dX8_of_175 ?_
    refine z_iconst (nI 1) (by decide) dX8_of_176 ?_
    refine z_icmp_ne 184 (by decide) dX8_of_177 (fun _ => ?_) (fun h => absurd h (by decide))
    refine z_iload_n rfl rfl dX8_of_184 ?_
    refine z_iconst (nI 2) (by decide) dX8_of_185 ?_
    refine z_icmp_ne 194 (by decide) dX8_of_186 (fun _ => ?_) (fun h => absurd h (by decide))
    refine z_iload_n rfl rfl dX8_of_194 ?_
    refine z_bipush (nI 6) (by decide) dX8_of_195 ?_
    refine z_icmp_ne 205 (by decide) dX8_of_197 (fun _ => ?_) (fun h => absurd h (by decide))
    refine z_aload_n rfl rfl dX8_of_205 ?_
    refine m_getR (129) kf_X8_43 (zl_a rfl rfl) rfl rfl (by decide) dX8_of_206 ?_
    refine z_iconst (nI 3) (by decide) dX8_of_209 ?_
    refine z_iload_n rfl rfl dX8_of_210 ?_
    refine m_mulN dX8_of_211 ?_
    refine z_iload_n rfl rfl dX8_of_212 ?_
    refine m_addN dX8_of_213 ?_
    refine z_iconst (nI 3) (by decide) dX8_of_214 ?_
    refine m_subN (by omega) dX8_of_215 ?_
    refine m_iald (((3 * c) + 5) - 3) (zl_a rfl rfl) rfl (by omega) (by decide) dX8_of_216 ?_
    exact z_iret (rfl) rfl (znarI _) (by decide) (by decide) dX8_of_217
  · refine z_iload_n rfl rfl dX8_of_162 ?_
    refine z_if_ne 175 (by decide) dX8_of_163 (fun _ => ?_) (fun h => absurd h (by decide))
    refine z_iload_n rfl rfl dX8_of_175 ?_
    refine z_iconst (nI 1) (by decide) dX8_of_176 ?_
    refine z_icmp_ne 184 (by decide) dX8_of_177 (fun _ => ?_) (fun h => absurd h (by decide))
    refine z_iload_n rfl rfl dX8_of_184 ?_
    refine z_iconst (nI 2) (by decide) dX8_of_185 ?_
    refine z_icmp_ne 194 (by decide) dX8_of_186 (fun _ => ?_) (fun h => absurd h (by decide))
    refine z_iload_n rfl rfl dX8_of_194 ?_
    refine z_bipush (nI 6) (by decide) dX8_of_195 ?_
    refine z_icmp_ne 205 (by decide) dX8_of_197 (fun h => absurd h (by decide)) (fun _ => ?_)
    refine z_iload rfl dX8_of_200 ?_
    refine z_goto 217 (by decide) dX8_of_202 ?_
    exact z_iret (rfl) rfl (znarI _) (by decide) (by decide) dX8_of_217
set_option maxRecDepth 100000 in
set_option maxHeartbeats 4000000 in
theorem ctx_X8_ofIsland {E : Nat × (Nat → Int32)} {μ : Nat → Nat → Int32} {g : Int64} {ni : Nat} (hni : μ 117 23 = nI ni) (hi20 : ni ≤ 20) {p w : Int32} (hbad : ¬ (zrg ni p)) : zCt E kX8_ofIsland [.ref (117), .int (p), .int (w)] (zm μ g) (.inl (some (.int (nI 0))), zm ((zu μ 117 0 (nI 1))) g) := by
  refine zCt_of ko_X8_ofIsland (Nat.le_of_ble_eq_true rfl) (zas_r (zas_i (zas_i zas_0))) ⟨Nat.le_refl _, fun h => absurd h (Nat.lt_irrefl _)⟩ (Nat.le_of_ble_eq_true rfl) ?_
  show zV false E kX8_ofIsland 145 _ 0 [.ref (117), .int (p), .int (w), .null, .null, .null] [] (zm μ g) 0 0
  refine z_aload_n rfl rfl dX8_ofIsland_0 ?_
  refine z_aload_n rfl rfl dX8_ofIsland_1 ?_
  refine z_iload_n rfl rfl dX8_ofIsland_2 ?_
  refine z_callV (as := [.int (p)]) (ctg_X8_isIsland hni hi20 (p)) ko_X8_isIsland kl_X8_158 rfl (zl_a rfl rfl) rfl rfl ⟨by decide, by decide, by decide, by decide⟩ (Nat.le_of_ble_eq_true rfl) rfl dX8_ofIsland_3 ?_
  refine z_if_ne 13 (by decide) dX8_ofIsland_6 (z_br zb_n (fun h1 => ?_)) (z_br zb_0 (fun h2 => ?_))
  · exact absurd (by repeat' (first | assumption | apply And.intro)) hbad
  · refine z_iconst (nI 1) (by decide) dX8_ofIsland_9 ?_
    refine z_goto 27 (by decide) dX8_ofIsland_10 ?_
    refine m_putI kf_X8_92 (zl_a rfl rfl) rfl dX8_ofIsland_27 ?_
    refine z_aload_n rfl rfl dX8_ofIsland_30 ?_
    refine m_getI kf_X8_92 (zl_a rfl rfl) rfl dX8_ofIsland_31 ?_
    refine m_eqv (w := nI 1) (rfl) ?_
    refine z_if_le 39 (by decide) dX8_ofIsland_34 (fun h => absurd h (by decide)) (fun _ => ?_)
    refine z_iconst (nI 0) (by decide) dX8_ofIsland_37 ?_
    exact z_iret (rfl) rfl (znarI _) (by decide) (by decide) dX8_ofIsland_38
set_option maxRecDepth 100000 in
set_option maxHeartbeats 4000000 in
theorem cta_X8_ofIsland {E : Nat × (Nat → Int32)} {μ : Nat → Nat → Int32} {g : Int64} {ni : Nat} (hni : μ 117 23 = nI ni) (hi20 : ni ≤ 20) {i : Nat} (hi : i < ni) {w : Int32} (hw : ¬ zrg 5 w)  : zCt E kX8_ofIsland [.ref (117), .int (nI i), .int (w)] (zm μ g) ((.inl (some (.int (nI 0))), zm (zu μ 117 0 (nI 2)) g) : zO) := by
  refine zCt_of ko_X8_ofIsland (Nat.le_of_ble_eq_true rfl) (zas_r (zas_i (zas_i zas_0))) ⟨Nat.le_refl _, fun h => absurd h (Nat.lt_irrefl _)⟩ (Nat.le_of_ble_eq_true rfl) ?_
  show zV false E kX8_ofIsland 145 _ 0 [.ref (117), .int (nI i), .int (w), .null, .null, .null] [] (zm μ g) 0 0
  refine z_aload_n rfl rfl dX8_ofIsland_0 ?_
  refine z_aload_n rfl rfl dX8_ofIsland_1 ?_
  refine z_iload_n rfl rfl dX8_ofIsland_2 ?_
  refine z_callV (as := [.int (nI i)]) (ct_X8_isIsland hni hi20 (j := i) (by omega)) ko_X8_isIsland kl_X8_158 rfl (zl_a rfl rfl) rfl rfl ⟨by decide, by decide, by decide, by decide⟩ (Nat.le_of_ble_eq_true rfl) rfl dX8_ofIsland_3 ?_
  refine z_if_ne 13 (by decide) dX8_ofIsland_6 (fun _ => ?_) (fun h => absurd h (by decide))
  refine z_iload_n rfl rfl dX8_ofIsland_13 ?_
  refine z_iconst (nI 0) (by decide) dX8_ofIsland_14 ?_
  refine z_iconst (nI 4) (by decide) dX8_ofIsland_15 ?_
  refine z_callS (as := [.int (w), .int (nI 0), .int (nI 4)]) (ct_X8_isInZ (w) 4 (by decide)) ko_X8_isIn kl_X8_96 rfl rfl ⟨by decide, by decide, by decide, by decide⟩ (Nat.le_of_ble_eq_true rfl) rfl dX8_ofIsland_16 ?_
  refine z_if_ne 26 (by decide) dX8_ofIsland_19 (z_br zb_n (fun h1 => ?_)) (z_br zb_0 (fun h2 => ?_))
  · exact absurd (by assumption) hw
  · refine z_iconst (nI 2) (by decide) dX8_ofIsland_22 ?_
    refine z_goto 27 (by decide) dX8_ofIsland_23 ?_
    refine m_putI kf_X8_92 (zl_a rfl rfl) rfl dX8_ofIsland_27 ?_
    refine z_aload_n rfl rfl dX8_ofIsland_30 ?_
    refine m_getI kf_X8_92 (zl_a rfl rfl) rfl dX8_ofIsland_31 ?_
    refine m_eqv (w := nI 2) (rfl) ?_
    refine z_if_le 39 (by decide) dX8_ofIsland_34 (fun h => absurd h (by decide)) (fun _ => ?_)
    refine z_iconst (nI 0) (by decide) dX8_ofIsland_37 ?_
    exact z_iret (rfl) rfl (znarI _) (by decide) (by decide) dX8_ofIsland_38
set_option maxRecDepth 100000 in
set_option maxHeartbeats 4000000 in
theorem lp_X8_ofIsland {E : Nat × (Nat → Int32)} {g : Int64} {μ : zMu} {nc i w : Nat} (hnc : μ 117 13 = nI nc) (hn12 : nc ≤ 12) (hi : i < 20) (hw : w < 5) {O : zO} (kk : zV false E kX8_ofIsland 145 O 109 [.ref (117), .int (nI i), .int (nI w), .int ((zit (doi μ i) 0 nc (nI 0, -1)).1), .int ((zit (doi μ i) 0 nc (nI 0, -1)).2), .null] [] (zm μ g) 0 0) : ∀ (n : Nat) (m : Nat) (s : Int32) (t : Int32), nc - m = n → m ≤ nc → (s, t) = zit (doi μ i) 0 m (nI 0, -1) → zV false E kX8_ofIsland 145 O 47 [.ref (117), .int (nI i), .int (nI w), .int (s), .int (t), .int (nI m)] [] (zm μ g) 0 0 := by
  intro n
  induction n using Nat.strongRecOn with
  | ind n ih =>
    intro m s t hm hle hs 
    refine z_iload rfl dX8_ofIsland_47 ?_
    refine z_aload_n rfl rfl dX8_ofIsland_49 ?_
    refine m_getI kf_X8_100 (zl_a rfl rfl) rfl dX8_ofIsland_50 ?_
    refine m_eqv (w := nI nc) (hnc) ?_
    refine z_icmp_ge 109 (by decide) dX8_ofIsland_53 (z_br (zcn (n := nc) (by omega) (m) (by omega)).2.2 (fun h1 => ?_)) (z_brn (zcn (n := nc) (by omega) (m) (by omega)).2.2 (fun h2 => ?_))
    · have hmL : m = nc := by omega
      have hz : zit (doi μ i) 0 nc (nI 0, -1) = (s, t) := by rw [hs, hmL]
      rw [hz] at kk
      refine z_fgt [.ref (117), .int (nI i), .int (nI w), .int (s), .int (t), .null] ⟨Or.inl rfl, ⟨Or.inl rfl, ⟨Or.inl rfl, ⟨Or.inl rfl, ⟨Or.inl rfl, ⟨Or.inr rfl, trivial⟩⟩⟩⟩⟩⟩ ?_
      exact kk
    · refine z_iload_n rfl rfl dX8_ofIsland_56 ?_
      refine z_aload_n rfl rfl dX8_ofIsland_57 ?_
      refine m_getR (140) kf_X8_77 (zl_a rfl rfl) rfl rfl (by decide) dX8_ofIsland_58 ?_
      refine z_bipush (nI 20) (by decide) dX8_ofIsland_61 ?_
      refine z_iload rfl dX8_ofIsland_63 ?_
      refine m_mulN dX8_ofIsland_65 ?_
      refine z_iload_n rfl rfl dX8_ofIsland_66 ?_
      refine m_addN dX8_ofIsland_67 ?_
      refine m_zald ((20 * m) + i) (zl_a rfl rfl) rfl (by omega) (by decide) dX8_ofIsland_68 ?_
      refine z_if_eq 76 (by decide) dX8_ofIsland_69 (fun h3 => ?_) (fun h4 => ?_)
      · refine z_iconst (nI 0) (by decide) dX8_ofIsland_76 ?_
        refine z_iadd dX8_ofIsland_77 ?_
        refine z_istore_n rfl (by decide) rfl dX8_ofIsland_78 ?_
        refine z_aload_n rfl rfl dX8_ofIsland_79 ?_
        refine m_getR (140) kf_X8_77 (zl_a rfl rfl) rfl rfl (by decide) dX8_ofIsland_80 ?_
        refine z_bipush (nI 20) (by decide) dX8_ofIsland_83 ?_
        refine z_iload rfl dX8_ofIsland_85 ?_
        refine m_mulN dX8_ofIsland_87 ?_
        refine z_iload_n rfl rfl dX8_ofIsland_88 ?_
        refine m_addN dX8_ofIsland_89 ?_
        refine m_zald ((20 * m) + i) (zl_a rfl rfl) rfl (by omega) (by decide) dX8_ofIsland_90 ?_
        refine z_if_eq 99 (by decide) dX8_ofIsland_91 (fun h5 => ?_) (fun h6 => ?_)
        · refine z_iload rfl dX8_ofIsland_99 ?_
          refine z_istore (by decide) rfl dX8_ofIsland_101 ?_
          refine z_iinc (nI (m + 1)) rfl (zinc _) (by decide) rfl dX8_ofIsland_103 ?_
          refine z_goto 47 (by decide) dX8_ofIsland_106 ?_
          exact ih (nc - (m + 1)) (by omega) (m + 1) (s + (nI 0)) (t) rfl (by omega) (zst0 hs (by rw [doi]; first | rfl | (rw [if_pos (by assumption), if_pos (by assumption)]) | exact absurd (by assumption) (by assumption)))
        · refine z_iload rfl dX8_ofIsland_94 ?_
          refine z_goto 101 (by decide) dX8_ofIsland_96 ?_
          refine z_istore (by decide) rfl dX8_ofIsland_101 ?_
          refine z_iinc (nI (m + 1)) rfl (zinc _) (by decide) rfl dX8_ofIsland_103 ?_
          refine z_goto 47 (by decide) dX8_ofIsland_106 ?_
          exact ih (nc - (m + 1)) (by omega) (m + 1) (s + (nI 0)) (nI m) rfl (by omega) (zst0 hs (by contradiction))
      · refine z_iconst (nI 1) (by decide) dX8_ofIsland_72 ?_
        refine z_goto 77 (by decide) dX8_ofIsland_73 ?_
        refine z_iadd dX8_ofIsland_77 ?_
        refine z_istore_n rfl (by decide) rfl dX8_ofIsland_78 ?_
        refine z_aload_n rfl rfl dX8_ofIsland_79 ?_
        refine m_getR (140) kf_X8_77 (zl_a rfl rfl) rfl rfl (by decide) dX8_ofIsland_80 ?_
        refine z_bipush (nI 20) (by decide) dX8_ofIsland_83 ?_
        refine z_iload rfl dX8_ofIsland_85 ?_
        refine m_mulN dX8_ofIsland_87 ?_
        refine z_iload_n rfl rfl dX8_ofIsland_88 ?_
        refine m_addN dX8_ofIsland_89 ?_
        refine m_zald ((20 * m) + i) (zl_a rfl rfl) rfl (by omega) (by decide) dX8_ofIsland_90 ?_
        refine z_if_eq 99 (by decide) dX8_ofIsland_91 (fun h7 => ?_) (fun h8 => ?_)
        · refine z_iload rfl dX8_ofIsland_99 ?_
          refine z_istore (by decide) rfl dX8_ofIsland_101 ?_
          refine z_iinc (nI (m + 1)) rfl (zinc _) (by decide) rfl dX8_ofIsland_103 ?_
          refine z_goto 47 (by decide) dX8_ofIsland_106 ?_
          exact ih (nc - (m + 1)) (by omega) (m + 1) (s + (nI 1)) (t) rfl (by omega) (zst0 hs (by contradiction))
        · refine z_iload rfl dX8_ofIsland_94 ?_
          refine z_goto 101 (by decide) dX8_ofIsland_96 ?_
          refine z_istore (by decide) rfl dX8_ofIsland_101 ?_
          refine z_iinc (nI (m + 1)) rfl (zinc _) (by decide) rfl dX8_ofIsland_103 ?_
          refine z_goto 47 (by decide) dX8_ofIsland_106 ?_
          exact ih (nc - (m + 1)) (by omega) (m + 1) (s + (nI 1)) (nI m) rfl (by omega) (zst0 hs (by rw [doi]; first | rfl | (rw [if_neg (by assumption), if_neg (by assumption)]) | exact absurd (by assumption) (by assumption)))
set_option maxRecDepth 100000 in
set_option maxHeartbeats 4000000 in
theorem ct_X8_ofIsland {E : Nat × (Nat → Int32)} {μ : Nat → Nat → Int32} {g : Int64} {nc : Nat} (hnc : μ 117 13 = nI nc) (hn12 : nc ≤ 12) {ni : Nat} (hni : μ 117 23 = nI ni) (hi20 : ni ≤ 20) {i w : Nat} (hi : i < ni) (hw : w < 5)  : zCt E kX8_ofIsland [.ref (117), .int (nI i), .int (nI w)] (zm μ g) ((.inl (some (.int (zoi8 (zu μ 117 0 (nI 0)) nc i w))), zm (zu μ 117 0 (nI 0)) g) : zO) := by
  refine zCt_of ko_X8_ofIsland (Nat.le_of_ble_eq_true rfl) (zas_r (zas_i (zas_i zas_0))) ⟨Nat.le_refl _, fun h => absurd h (Nat.lt_irrefl _)⟩ (Nat.le_of_ble_eq_true rfl) ?_
  show zV false E kX8_ofIsland 145 _ 0 [.ref (117), .int (nI i), .int (nI w), .null, .null, .null] [] (zm μ g) 0 0
  refine z_aload_n rfl rfl dX8_ofIsland_0 ?_
  refine z_aload_n rfl rfl dX8_ofIsland_1 ?_
  refine z_iload_n rfl rfl dX8_ofIsland_2 ?_
  refine z_callV (as := [.int (nI i)]) (ct_X8_isIsland hni hi20 (j := i) (by omega)) ko_X8_isIsland kl_X8_158 rfl (zl_a rfl rfl) rfl rfl ⟨by decide, by decide, by decide, by decide⟩ (Nat.le_of_ble_eq_true rfl) rfl dX8_ofIsland_3 ?_
  refine z_if_ne 13 (by decide) dX8_ofIsland_6 (fun _ => ?_) (fun h => absurd h (by decide))
  refine z_iload_n rfl rfl dX8_ofIsland_13 ?_
  refine z_iconst (nI 0) (by decide) dX8_ofIsland_14 ?_
  refine z_iconst (nI 4) (by decide) dX8_ofIsland_15 ?_
  refine z_callS (as := [.int (nI w), .int (nI 0), .int (nI 4)]) (ct_X8_isInN (l := 0) (j := w) (h := 4) (by omega) (by omega) (by omega)) ko_X8_isIn kl_X8_96 rfl rfl ⟨by decide, by decide, by decide, by decide⟩ (Nat.le_of_ble_eq_true rfl) rfl dX8_ofIsland_16 ?_
  refine z_if_ne 26 (by decide) dX8_ofIsland_19 (fun _ => ?_) (fun h => absurd h (by decide))
  refine z_iconst (nI 0) (by decide) dX8_ofIsland_26 ?_
  refine m_putI kf_X8_92 (zl_a rfl rfl) rfl dX8_ofIsland_27 ?_
  refine z_aload_n rfl rfl dX8_ofIsland_30 ?_
  refine m_getI kf_X8_92 (zl_a rfl rfl) rfl dX8_ofIsland_31 ?_
  refine m_eqv (w := nI 0) (rfl) ?_
  refine z_if_le 39 (by decide) dX8_ofIsland_34 (fun _ => ?_) (fun h => absurd h (by decide))
  refine z_iconst (nI 0) (by decide) dX8_ofIsland_39 ?_
  refine z_istore_n rfl (by decide) rfl dX8_ofIsland_40 ?_
  refine z_iconst (-1) (by decide) dX8_ofIsland_41 ?_
  refine z_istore (by decide) rfl dX8_ofIsland_42 ?_
  refine z_iconst (nI 0) (by decide) dX8_ofIsland_44 ?_
  refine z_istore (by decide) rfl dX8_ofIsland_45 ?_
  refine lp_X8_ofIsland (μ := (zu μ 117 0 (nI 0))) (nc := nc) (i := i) (w := w) hnc hn12 (by omega) (by omega) ?_ _ 0 _ _ rfl (Nat.zero_le _) rfl
  have hws : w = 0 ∨ w = 1 ∨ w = 2 ∨ w = 3 ∨ w = 4 := by omega
  rcases hws with rfl | rfl | rfl | rfl | rfl
  · refine z_iload_n rfl rfl dX8_ofIsland_109 ?_
    refine z_if_ne 117 (by decide) dX8_ofIsland_110 (fun h => absurd h (by decide)) (fun _ => ?_)
    refine z_iload_n rfl rfl dX8_ofIsland_113 ?_
    refine z_goto 161 (by decide) dX8_ofIsland_114 ?_
    exact z_iret (rfl) rfl (znarI _) (by decide) (by decide) dX8_ofIsland_161
  · refine z_iload_n rfl rfl dX8_ofIsland_109 ?_
    refine z_if_ne 117 (by decide) dX8_ofIsland_110 (fun _ => ?_) (fun h => absurd h (by decide))
    refine z_iload_n rfl rfl dX8_ofIsland_117 ?_
    refine z_iconst (nI 1) (by decide) dX8_ofIsland_118 ?_
    refine z_icmp_ne 131 (by decide) dX8_ofIsland_119 (fun h => absurd h (by decide)) (fun _ => ?_)
    refine z_aload_n rfl rfl dX8_ofIsland_122 ?_
    refine m_getR (137) kf_X8_68 (zl_a rfl rfl) rfl rfl (by decide) dX8_ofIsland_123 ?_
    refine z_iload_n rfl rfl dX8_ofIsland_126 ?_
    refine m_iald (i) (zl_a rfl rfl) rfl (by omega) (by decide) dX8_ofIsland_127 ?_
    refine z_goto 161 (by decide) dX8_ofIsland_128 ?_
    exact z_iret (rfl) rfl (znarI _) (by decide) (by decide) dX8_ofIsland_161
  · refine z_iload_n rfl rfl dX8_ofIsland_109 ?_
    refine z_if_ne 117 (by decide) dX8_ofIsland_110 (fun _ => ?_) (fun h => absurd h (by decide))
    refine z_iload_n rfl rfl dX8_ofIsland_117 ?_
    refine z_iconst (nI 1) (by decide) dX8_ofIsland_118 ?_
    refine z_icmp_ne 131 (by decide) dX8_ofIsland_119 (fun _ => ?_) (fun h => absurd h (by decide))
    refine z_iload_n rfl rfl dX8_ofIsland_131 ?_
    refine z_iconst (nI 2) (by decide) dX8_ofIsland_132 ?_
    refine z_icmp_ne 145 (by decide) dX8_ofIsland_133 (fun h => absurd h (by decide)) (fun _ => ?_)
    refine z_aload_n rfl rfl dX8_ofIsland_136 ?_
    refine m_getR (138) kf_X8_71 (zl_a rfl rfl) rfl rfl (by decide) dX8_ofIsland_137 ?_
    refine z_iload_n rfl rfl dX8_ofIsland_140 ?_
    refine m_iald (i) (zl_a rfl rfl) rfl (by omega) (by decide) dX8_ofIsland_141 ?_
    refine z_goto 161 (by decide) dX8_ofIsland_142 ?_
    exact z_iret (rfl) rfl (znarI _) (by decide) (by decide) dX8_ofIsland_161
  · refine z_iload_n rfl rfl dX8_ofIsland_109 ?_
    refine z_if_ne 117 (by decide) dX8_ofIsland_110 (fun _ => ?_) (fun h => absurd h (by decide))
    refine z_iload_n rfl rfl dX8_ofIsland_117 ?_
    refine z_iconst (nI 1) (by decide) dX8_ofIsland_118 ?_
    refine z_icmp_ne 131 (by decide) dX8_ofIsland_119 (fun _ => ?_) (fun h => absurd h (by decide))
    refine z_iload_n rfl rfl dX8_ofIsland_131 ?_
    refine z_iconst (nI 2) (by decide) dX8_ofIsland_132 ?_
    refine z_icmp_ne 145 (by decide) dX8_ofIsland_133 (fun _ => ?_) (fun h => absurd h (by decide))
    refine z_iload_n rfl rfl dX8_ofIsland_145 ?_
    refine z_iconst (nI 3) (by decide) dX8_ofIsland_146 ?_
    refine z_icmp_ne 159 (by decide) dX8_ofIsland_147 (fun h => absurd h (by decide)) (fun _ => ?_)
    refine z_aload_n rfl rfl dX8_ofIsland_150 ?_
    refine m_getR (139) kf_X8_74 (zl_a rfl rfl) rfl rfl (by decide) dX8_ofIsland_151 ?_
    refine z_iload_n rfl rfl dX8_ofIsland_154 ?_
    refine m_iald (i) (zl_a rfl rfl) rfl (by omega) (by decide) dX8_ofIsland_155 ?_
    refine z_goto 161 (by decide) dX8_ofIsland_156 ?_
    exact z_iret (rfl) rfl (znarI _) (by decide) (by decide) dX8_ofIsland_161
  · refine z_iload_n rfl rfl dX8_ofIsland_109 ?_
    refine z_if_ne 117 (by decide) dX8_ofIsland_110 (fun _ => ?_) (fun h => absurd h (by decide))
    refine z_iload_n rfl rfl dX8_ofIsland_117 ?_
    refine z_iconst (nI 1) (by decide) dX8_ofIsland_118 ?_
    refine z_icmp_ne 131 (by decide) dX8_ofIsland_119 (fun _ => ?_) (fun h => absurd h (by decide))
    refine z_iload_n rfl rfl dX8_ofIsland_131 ?_
    refine z_iconst (nI 2) (by decide) dX8_ofIsland_132 ?_
    refine z_icmp_ne 145 (by decide) dX8_ofIsland_133 (fun _ => ?_) (fun h => absurd h (by decide))
    refine z_iload_n rfl rfl dX8_ofIsland_145 ?_
    refine z_iconst (nI 3) (by decide) dX8_ofIsland_146 ?_
    refine z_icmp_ne 159 (by decide) dX8_ofIsland_147 (fun _ => ?_) (fun h => absurd h (by decide))
    refine z_iload rfl dX8_ofIsland_159 ?_
    exact z_iret (rfl) rfl (znarI _) (by decide) (by decide) dX8_ofIsland_161
