/-! the reference: chain, paste (printed by wip/whole/gen_m.py) -/
set_option maxRecDepth 100000 in
set_option maxHeartbeats 4000000 in
theorem lp_X8_isInChain {E : Nat × (Nat → Int32)} {μ : zMu} {g : Int64} {a b p : Nat} (ha : a < 12) (hp : p < 24) (hlk : zlks μ p) (n : Nat) : ∀ (l : Int32), (l = -1 ∨ ∃ j, j < 12 ∧ l = nI j) → dst μ p a n l → zV false E kX8_isInChain 145 (.inl (some (.int (zB (dhit μ p a n l)))), zm μ g) 20 [.ref (117), .int (nI a), .int (nI b), .int (nI p), .int (l)] [] (zm μ g) 0 0 := by
  induction n with
  | zero =>
    intro l _ h
    exact (show False from h).elim
  | succ n ih =>
    intro l hl hs
    refine z_iload rfl dX8_isInChain_20 ?_
    refine z_iconst (-1) (by decide) dX8_isInChain_22 ?_
    refine z_icmp_eq 44 (by decide) dX8_isInChain_23 (fun h1 => ?_) (fun h2 => ?_)
    · refine z_iload rfl dX8_isInChain_44 ?_
      refine z_iload_n rfl rfl dX8_isInChain_46 ?_
      refine z_icmp_ne 54 (by decide) dX8_isInChain_47 (fun h3 => ?_) (fun h4 => ?_)
      · refine z_iconst (nI 0) (by decide) dX8_isInChain_54 ?_
        exact z_iret (by first | exact zleafBF (fun q => q.1 (by assumption)) | contradiction) rfl rfl (by decide) (by decide) dX8_isInChain_55
      · refine z_iconst (nI 1) (by decide) dX8_isInChain_50 ?_
        refine z_goto 55 (by decide) dX8_isInChain_51 ?_
        exact z_iret (by first | exact zleafBT ⟨by assumption, Or.inl (by assumption)⟩ | exact absurd (h1.symm.trans h4) (znm1 (by omega))) rfl rfl (by decide) (by decide) dX8_isInChain_55
    · refine z_iload rfl dX8_isInChain_26 ?_
      refine z_iload_n rfl rfl dX8_isInChain_28 ?_
      refine z_icmp_eq 44 (by decide) dX8_isInChain_29 (fun h5 => ?_) (fun h6 => ?_)
      · refine z_iload rfl dX8_isInChain_44 ?_
        refine z_iload_n rfl rfl dX8_isInChain_46 ?_
        refine z_icmp_ne 54 (by decide) dX8_isInChain_47 (fun h7 => ?_) (fun h8 => ?_)
        · refine z_iconst (nI 0) (by decide) dX8_isInChain_54 ?_
          exact z_iret (by first | exact zleafBF (fun q => q.1 (by assumption)) | contradiction) rfl rfl (by decide) (by decide) dX8_isInChain_55
        · refine z_iconst (nI 1) (by decide) dX8_isInChain_50 ?_
          refine z_goto 55 (by decide) dX8_isInChain_51 ?_
          exact z_iret (by first | exact zleafBT ⟨by assumption, Or.inl (by assumption)⟩ | exact absurd (h5.symm.trans h8) (znm1 (by omega))) rfl rfl (by decide) (by decide) dX8_isInChain_55
      · obtain ⟨j, hj, rfl⟩ := hl.resolve_left h2
        refine z_aload_n rfl rfl dX8_isInChain_32 ?_
        refine z_iload rfl dX8_isInChain_33 ?_
        refine z_iload_n rfl rfl dX8_isInChain_35 ?_
        refine z_callV (as := [.int (nI j), .int (nI p)]) (ct_X8_next (c := j) (p := p) (by omega) (by omega)) ko_X8_next kl_X8_143 rfl (zl_a rfl rfl) rfl rfl ⟨by decide, by decide, by decide, by decide⟩ (Nat.le_of_ble_eq_true rfl) rfl dX8_isInChain_36 ?_
        refine z_istore (by decide) rfl dX8_isInChain_39 ?_
        refine z_goto 20 (by decide) dX8_isInChain_41 ?_
        have ei := dnx_n (μ := μ) (p := p) hj
        refine z_oeq (zlf_int (zB_cong ⟨fun q => by have q2 := q.2.resolve_left h6; rw [ei] at q2; exact q2, fun q => ⟨h2, Or.inr (by rw [ei]; exact q)⟩⟩)) ?_
        exact ih _ (hlk j hj) (by rw [← ei]; exact (hs.resolve_left h2).resolve_left h6)
set_option maxRecDepth 100000 in
set_option maxHeartbeats 4000000 in
theorem ct_X8_isInChain {E : Nat × (Nat → Int32)} {μ : Nat → Nat → Int32} {g : Int64} {a b p : Nat} (ha : a < 12) (hb : b < 12) (hp : p < 24) (hlk : zlks μ p) {n : Nat} (hst : dst μ p a n (dl0 μ b p)) : zCt E kX8_isInChain [.ref (117), .int (nI a), .int (nI b), .int (nI p)] (zm μ g) (.inl (some (.int (zB (dhit μ p a n (dl0 μ b p))))), zm μ g) := by
  refine zCt_of ko_X8_isInChain (Nat.le_of_ble_eq_true rfl) (zas_r (zas_i (zas_i (zas_i zas_0)))) ⟨Nat.le_refl _, fun h => absurd h (Nat.lt_irrefl _)⟩ (Nat.le_of_ble_eq_true rfl) ?_
  show zV false E kX8_isInChain 145 _ 0 [.ref (117), .int (nI a), .int (nI b), .int (nI p), .null] [] (zm μ g) 0 0
  refine z_aload_n rfl rfl dX8_isInChain_0 ?_
  refine m_getR (130) kf_X8_46 (zl_a rfl rfl) rfl rfl (by decide) dX8_isInChain_1 ?_
  refine z_iload_n rfl rfl dX8_isInChain_4 ?_
  refine z_iload_n rfl rfl dX8_isInChain_5 ?_
  refine z_callS (as := [.int (nI b), .int (nI p)]) (ct_X8_spot (b) (p)) ko_X8_spot kl_X8_122 rfl rfl ⟨by decide, by decide, by decide, by decide⟩ (Nat.le_of_ble_eq_true rfl) rfl dX8_isInChain_6 ?_
  refine m_zald (24 * b + p) (zl_a rfl rfl) rfl (by omega) (by decide) dX8_isInChain_9 ?_
  refine z_if_eq 17 (by decide) dX8_isInChain_10 (fun h1 => ?_) (fun h2 => ?_)
  · refine z_iconst (-1) (by decide) dX8_isInChain_17 ?_
    refine z_istore (by decide) rfl dX8_isInChain_18 ?_
    have e0 : dl0 μ b p = -1 := if_pos h1
    rw [e0]
    exact lp_X8_isInChain ha hp hlk n _ (Or.inl rfl) (by rw [← e0]; exact hst)
  · refine z_iload_n rfl rfl dX8_isInChain_13 ?_
    refine z_goto 18 (by decide) dX8_isInChain_14 ?_
    refine z_istore (by decide) rfl dX8_isInChain_18 ?_
    have e0 : dl0 μ b p = nI b := if_neg h2
    rw [e0]
    exact lp_X8_isInChain ha hp hlk n _ (Or.inr ⟨b, hb, rfl⟩) (by rw [← e0]; exact hst)
set_option maxRecDepth 100000 in
set_option maxHeartbeats 4000000 in
theorem lp_X8_chain {E : Nat × (Nat → Int32)} {g : Int64} {μ : zMu} {c p k : Nat} (hp : p < 24) (hk : k < 2147483648) (hlk : zlks μ p) : ∀ (n : Nat) (m : Nat) (l : Int32), k - m = n → m ≤ k → l = zit (fun _ l => dnx μ p l) 0 m (dl0 μ c p) → (l = -1 ∨ ∃ j, j < 12 ∧ l = nI j) → zV false E kX8_chain 145 (.inl (some (.int (zit (fun _ l => dnx μ p l) 0 k (dl0 μ c p)))), zm μ g) 61 [.ref (117), .int (nI c), .int (nI p), .int (nI k), .int (l), .int (nI m)] [] (zm μ g) 0 0 := by
  intro n
  induction n using Nat.strongRecOn with
  | ind n ih =>
    intro m l hm hle hs hl
    refine z_iload rfl dX8_chain_61 ?_
    refine z_iload_n rfl rfl dX8_chain_63 ?_
    refine z_icmp_ge 88 (by decide) dX8_chain_64 (z_br (zcn (n := k) (by omega) (m) (by omega)).2.2 (fun h1 => ?_)) (z_brn (zcn (n := k) (by omega) (m) (by omega)).2.2 (fun h2 => ?_))
    · have hmL : m = k := by omega
      have hz : zit (fun _ l => dnx μ p l) 0 k (dl0 μ c p) = l := by rw [hs, hmL]
      refine z_iload rfl dX8_chain_88 ?_
      exact z_iret (by rw [hz]) rfl (znarI _) (by decide) (by decide) dX8_chain_90
    · refine z_iload rfl dX8_chain_67 ?_
      refine z_iconst (-1) (by decide) dX8_chain_69 ?_
      refine z_icmp_eq 88 (by decide) dX8_chain_70 (fun h3 => ?_) (fun h4 => ?_)
      · have hz : zit (fun _ l => dnx μ p l) 0 k (dl0 μ c p) = l := by
          have h9 := zit_stay hs (fun i => by show dnx μ p l = l; rw [dnx, if_pos h3, h3]) (k - m)
          rw [show m + (k - m) = k by omega] at h9
          exact h9
        refine z_iload rfl dX8_chain_88 ?_
        exact z_iret (by rw [hz]) rfl (znarI _) (by decide) (by decide) dX8_chain_90
      · obtain ⟨j, hj, rfl⟩ := hl.resolve_left h4
        refine z_aload_n rfl rfl dX8_chain_73 ?_
        refine z_iload rfl dX8_chain_74 ?_
        refine z_iload_n rfl rfl dX8_chain_76 ?_
        refine z_callV (as := [.int (nI j), .int (nI p)]) (ct_X8_next (c := j) (p := p) (by omega) (by omega)) ko_X8_next kl_X8_143 rfl (zl_a rfl rfl) rfl rfl ⟨by decide, by decide, by decide, by decide⟩ (Nat.le_of_ble_eq_true rfl) rfl dX8_chain_77 ?_
        refine z_istore (by decide) rfl dX8_chain_80 ?_
        refine z_iinc (nI (m + 1)) rfl (zinc _) (by decide) rfl dX8_chain_82 ?_
        refine z_goto 61 (by decide) dX8_chain_85 ?_
        exact ih (k - (m + 1)) (by omega) (m + 1) (znx μ j p) rfl (by omega) (zst0 hs ((dnx_n hj).symm)) (hlk j hj)
set_option maxRecDepth 100000 in
set_option maxHeartbeats 4000000 in
theorem ctx_X8_chain {E : Nat × (Nat → Int32)} {μ : Nat → Nat → Int32} {g : Int64} {nc : Nat} (hnc : μ 117 13 = nI nc) (hn12 : nc ≤ 12) {p q r : Int32} (hbad : ¬ (zrg nc p ∧ zrg 24 q ∧ ¬ r < 0)) : zCt E kX8_chain [.ref (117), .int (p), .int (q), .int (r)] (zm μ g) (.inl (some (.int (nI 0))), zm ((zu μ 117 0 (nI 1))) g) := by
  refine zCt_of ko_X8_chain (Nat.le_of_ble_eq_true rfl) (zas_r (zas_i (zas_i (zas_i zas_0)))) ⟨Nat.le_refl _, fun h => absurd h (Nat.lt_irrefl _)⟩ (Nat.le_of_ble_eq_true rfl) ?_
  show zV false E kX8_chain 145 _ 0 [.ref (117), .int (p), .int (q), .int (r), .null, .null] [] (zm μ g) 0 0
  refine z_aload_n rfl rfl dX8_chain_0 ?_
  refine z_aload_n rfl rfl dX8_chain_1 ?_
  refine z_iload_n rfl rfl dX8_chain_2 ?_
  refine z_callV (as := [.int (p)]) (ctg_X8_isChart hnc hn12 (p)) ko_X8_isChart kl_X8_136 rfl (zl_a rfl rfl) rfl rfl ⟨by decide, by decide, by decide, by decide⟩ (Nat.le_of_ble_eq_true rfl) rfl dX8_chain_3 ?_
  refine z_if_eq 24 (by decide) dX8_chain_6 (z_br zb_0 (fun h1 => ?_)) (z_br zb_n (fun h2 => ?_))
  · refine z_iconst (nI 1) (by decide) dX8_chain_24 ?_
    refine m_putI kf_X8_92 (zl_a rfl rfl) rfl dX8_chain_25 ?_
    refine z_aload_n rfl rfl dX8_chain_28 ?_
    refine m_getI kf_X8_92 (zl_a rfl rfl) rfl dX8_chain_29 ?_
    refine m_eqv (w := nI 1) (rfl) ?_
    refine z_if_le 37 (by decide) dX8_chain_32 (fun h => absurd h (by decide)) (fun _ => ?_)
    refine z_iconst (nI 0) (by decide) dX8_chain_35 ?_
    exact z_iret (rfl) rfl (znarI _) (by decide) (by decide) dX8_chain_36
  · refine z_iload_n rfl rfl dX8_chain_9 ?_
    refine z_callS (as := [.int (q)]) (ctg_X8_isPoint (q)) ko_X8_isPoint kl_X8_113 rfl rfl ⟨by decide, by decide, by decide, by decide⟩ (Nat.le_of_ble_eq_true rfl) rfl dX8_chain_10 ?_
    refine z_if_eq 24 (by decide) dX8_chain_13 (z_br zb_0 (fun h3 => ?_)) (z_br zb_n (fun h4 => ?_))
    · refine z_iconst (nI 1) (by decide) dX8_chain_24 ?_
      refine m_putI kf_X8_92 (zl_a rfl rfl) rfl dX8_chain_25 ?_
      refine z_aload_n rfl rfl dX8_chain_28 ?_
      refine m_getI kf_X8_92 (zl_a rfl rfl) rfl dX8_chain_29 ?_
      refine m_eqv (w := nI 1) (rfl) ?_
      refine z_if_le 37 (by decide) dX8_chain_32 (fun h => absurd h (by decide)) (fun _ => ?_)
      refine z_iconst (nI 0) (by decide) dX8_chain_35 ?_
      exact z_iret (rfl) rfl (znarI _) (by decide) (by decide) dX8_chain_36
    · refine z_iload_n rfl rfl dX8_chain_16 ?_
      refine z_if_lt 24 (by decide) dX8_chain_17 (fun h5 => ?_) (fun h6 => ?_)
      · refine z_iconst (nI 1) (by decide) dX8_chain_24 ?_
        refine m_putI kf_X8_92 (zl_a rfl rfl) rfl dX8_chain_25 ?_
        refine z_aload_n rfl rfl dX8_chain_28 ?_
        refine m_getI kf_X8_92 (zl_a rfl rfl) rfl dX8_chain_29 ?_
        refine m_eqv (w := nI 1) (rfl) ?_
        refine z_if_le 37 (by decide) dX8_chain_32 (fun h => absurd h (by decide)) (fun _ => ?_)
        refine z_iconst (nI 0) (by decide) dX8_chain_35 ?_
        exact z_iret (rfl) rfl (znarI _) (by decide) (by decide) dX8_chain_36
      · exact absurd (by repeat' (first | assumption | apply And.intro)) hbad
set_option maxRecDepth 100000 in
set_option maxHeartbeats 4000000 in
theorem ct_X8_chain {E : Nat × (Nat → Int32)} {μ : Nat → Nat → Int32} {g : Int64} {nc : Nat} (hnc : μ 117 13 = nI nc) (hn12 : nc ≤ 12) {c p k : Nat} (hc : c < nc) (hp : p < 24) (hk : k < 2147483648) (hlk : zlks μ p)  : zCt E kX8_chain [.ref (117), .int (nI c), .int (nI p), .int (nI k)] (zm μ g) ((.inl (some (.int (zit (fun _ l => dnx (zu μ 117 0 (nI 0)) p l) 0 k (dl0 (zu μ 117 0 (nI 0)) c p)))), zm (zu μ 117 0 (nI 0)) g) : zO) := by
  refine zCt_of ko_X8_chain (Nat.le_of_ble_eq_true rfl) (zas_r (zas_i (zas_i (zas_i zas_0)))) ⟨Nat.le_refl _, fun h => absurd h (Nat.lt_irrefl _)⟩ (Nat.le_of_ble_eq_true rfl) ?_
  show zV false E kX8_chain 145 _ 0 [.ref (117), .int (nI c), .int (nI p), .int (nI k), .null, .null] [] (zm μ g) 0 0
  refine z_aload_n rfl rfl dX8_chain_0 ?_
  refine z_aload_n rfl rfl dX8_chain_1 ?_
  refine z_iload_n rfl rfl dX8_chain_2 ?_
  refine z_callV (as := [.int (nI c)]) (ct_X8_isChart hnc hn12 (j := c) (by omega)) ko_X8_isChart kl_X8_136 rfl (zl_a rfl rfl) rfl rfl ⟨by decide, by decide, by decide, by decide⟩ (Nat.le_of_ble_eq_true rfl) rfl dX8_chain_3 ?_
  refine z_if_eq 24 (by decide) dX8_chain_6 (fun h => absurd h (by decide)) (fun _ => ?_)
  refine z_iload_n rfl rfl dX8_chain_9 ?_
  refine z_callS (as := [.int (nI p)]) (ct_X8_isPoint (j := p) (by omega)) ko_X8_isPoint kl_X8_113 rfl rfl ⟨by decide, by decide, by decide, by decide⟩ (Nat.le_of_ble_eq_true rfl) rfl dX8_chain_10 ?_
  refine z_if_eq 24 (by decide) dX8_chain_13 (fun h => absurd h (by decide)) (fun _ => ?_)
  refine z_iload_n rfl rfl dX8_chain_16 ?_
  refine z_if_lt 24 (by decide) dX8_chain_17 (fun h => absurd h (nI_pos (n := k) (by omega))) (fun _ => ?_)
  refine z_iconst (nI 0) (by decide) dX8_chain_20 ?_
  refine z_goto 25 (by decide) dX8_chain_21 ?_
  refine m_putI kf_X8_92 (zl_a rfl rfl) rfl dX8_chain_25 ?_
  refine z_aload_n rfl rfl dX8_chain_28 ?_
  refine m_getI kf_X8_92 (zl_a rfl rfl) rfl dX8_chain_29 ?_
  refine m_eqv (w := nI 0) (rfl) ?_
  refine z_if_le 37 (by decide) dX8_chain_32 (fun _ => ?_) (fun h => absurd h (by decide))
  refine z_aload_n rfl rfl dX8_chain_37 ?_
  refine m_getR (130) kf_X8_46 (zl_a rfl rfl) rfl rfl (by decide) dX8_chain_38 ?_
  refine z_bipush (nI 24) (by decide) dX8_chain_41 ?_
  refine z_iload_n rfl rfl dX8_chain_43 ?_
  refine m_mulN dX8_chain_44 ?_
  refine z_iload_n rfl rfl dX8_chain_45 ?_
  refine m_addN dX8_chain_46 ?_
  refine m_zald ((24 * c) + p) (zl_a rfl rfl) rfl (by omega) (by decide) dX8_chain_47 ?_
  refine z_if_eq 55 (by decide) dX8_chain_48 (fun h3 => ?_) (fun h4 => ?_)
  · refine z_iconst (-1) (by decide) dX8_chain_55 ?_
    refine z_istore (by decide) rfl dX8_chain_56 ?_
    refine z_iconst (nI 0) (by decide) dX8_chain_58 ?_
    refine z_istore (by decide) rfl dX8_chain_59 ?_
    have e0 : dl0 (zu μ 117 0 (nI 0)) c p = -1 := if_pos h3
    exact lp_X8_chain (μ := (zu μ 117 0 (nI 0))) (c := c) (p := p) (k := k) (by omega) (by omega) hlk _ 0 _ rfl (Nat.zero_le _) (by rw [← e0]; rfl) (Or.inl rfl)
  · refine z_iload_n rfl rfl dX8_chain_51 ?_
    refine z_goto 56 (by decide) dX8_chain_52 ?_
    refine z_istore (by decide) rfl dX8_chain_56 ?_
    refine z_iconst (nI 0) (by decide) dX8_chain_58 ?_
    refine z_istore (by decide) rfl dX8_chain_59 ?_
    have e0 : dl0 (zu μ 117 0 (nI 0)) c p = nI c := if_neg h4
    exact lp_X8_chain (μ := (zu μ 117 0 (nI 0))) (c := c) (p := p) (k := k) (by omega) (by omega) hlk _ 0 _ rfl (Nat.zero_le _) (by rw [← e0]; rfl) (Or.inr ⟨c, by omega, rfl⟩)
set_option maxRecDepth 100000 in
set_option maxHeartbeats 4000000 in
theorem ctx_X8_paste {E : Nat × (Nat → Int32)} {μ : Nat → Nat → Int32} {g : Int64} {nc : Nat} (hnc : μ 117 13 = nI nc) (hn12 : nc ≤ 12) {p q r w : Int32} (hbad : ¬ (zrg nc p ∧ zrg nc q ∧ zrg 24 r ∧ zrg 24 w)) : zCt E kX8_paste [.ref (117), .int (p), .int (q), .int (r), .int (w)] (zm μ g) (.inl (some (.int (nI 0))), zm ((zu μ 117 0 (nI 1))) g) := by
  refine zCt_of ko_X8_paste (Nat.le_of_ble_eq_true rfl) (zas_r (zas_i (zas_i (zas_i (zas_i zas_0))))) ⟨Nat.le_refl _, fun h => absurd h (Nat.lt_irrefl _)⟩ (Nat.le_of_ble_eq_true rfl) ?_
  show zV false E kX8_paste 145 _ 0 [.ref (117), .int (p), .int (q), .int (r), .int (w), .null, .null, .null, .null, .null, .null, .null, .null, .null, .null] [] (zm μ g) 0 0
  refine z_aload_n rfl rfl dX8_paste_0 ?_
  refine z_iload_n rfl rfl dX8_paste_1 ?_
  refine z_callV (as := [.int (p)]) (ctg_X8_isChart hnc hn12 (p)) ko_X8_isChart kl_X8_136 rfl (zl_a rfl rfl) rfl rfl ⟨by decide, by decide, by decide, by decide⟩ (Nat.le_of_ble_eq_true rfl) rfl dX8_paste_2 ?_
  refine z_if_eq 35 (by decide) dX8_paste_5 (z_br zb_0 (fun h1 => ?_)) (z_br zb_n (fun h2 => ?_))
  · refine z_iconst (nI 0) (by decide) dX8_paste_35 ?_
    refine z_istore (by decide) rfl dX8_paste_36 ?_
    refine z_iload rfl dX8_paste_38 ?_
    refine z_if_eq 58 (by decide) dX8_paste_40 (fun _ => ?_) (fun h => absurd h (by decide))
    refine z_iconst (nI 0) (by decide) dX8_paste_58 ?_
    refine z_istore (by decide) rfl dX8_paste_59 ?_
    refine z_iload rfl dX8_paste_61 ?_
    refine z_if_eq 96 (by decide) dX8_paste_63 (fun _ => ?_) (fun h => absurd h (by decide))
    refine z_iconst (nI 0) (by decide) dX8_paste_96 ?_
    refine z_istore (by decide) rfl dX8_paste_97 ?_
    refine z_iload rfl dX8_paste_99 ?_
    refine z_if_eq 128 (by decide) dX8_paste_101 (fun _ => ?_) (fun h => absurd h (by decide))
    refine z_iconst (nI 0) (by decide) dX8_paste_128 ?_
    refine z_istore (by decide) rfl dX8_paste_129 ?_
    refine z_iload rfl dX8_paste_131 ?_
    refine z_if_eq 160 (by decide) dX8_paste_133 (fun _ => ?_) (fun h => absurd h (by decide))
    refine z_iconst (nI 0) (by decide) dX8_paste_160 ?_
    refine z_istore (by decide) rfl dX8_paste_161 ?_
    refine z_iload rfl dX8_paste_163 ?_
    refine z_if_eq 187 (by decide) dX8_paste_165 (fun _ => ?_) (fun h => absurd h (by decide))
    refine z_iconst (nI 0) (by decide) dX8_paste_187 ?_
    refine z_istore (by decide) rfl dX8_paste_188 ?_
    refine z_iload_n rfl rfl dX8_paste_190 ?_
    refine z_istore (by decide) rfl dX8_paste_191 ?_
    refine z_iload rfl dX8_paste_193 ?_
    refine z_if_eq 246 (by decide) dX8_paste_195 (fun _ => ?_) (fun h => absurd h (by decide))
    refine z_aload_n rfl rfl dX8_paste_246 ?_
    refine z_iload rfl dX8_paste_247 ?_
    refine z_if_ne 256 (by decide) dX8_paste_249 (fun h => absurd h (by decide)) (fun _ => ?_)
    refine z_iconst (nI 1) (by decide) dX8_paste_252 ?_
    refine z_goto 275 (by decide) dX8_paste_253 ?_
    refine m_putI kf_X8_92 (zl_a rfl rfl) rfl dX8_paste_275 ?_
    refine z_aload_n rfl rfl dX8_paste_278 ?_
    refine m_getI kf_X8_92 (zl_a rfl rfl) rfl dX8_paste_279 ?_
    refine m_eqv (w := nI 1) (rfl) ?_
    refine z_if_le 287 (by decide) dX8_paste_282 (fun h => absurd h (by decide)) (fun _ => ?_)
    refine z_iconst (nI 0) (by decide) dX8_paste_285 ?_
    exact z_iret (rfl) rfl (znarI _) (by decide) (by decide) dX8_paste_286
  · refine z_aload_n rfl rfl dX8_paste_8 ?_
    refine z_iload_n rfl rfl dX8_paste_9 ?_
    refine z_callV (as := [.int (q)]) (ctg_X8_isChart hnc hn12 (q)) ko_X8_isChart kl_X8_136 rfl (zl_a rfl rfl) rfl rfl ⟨by decide, by decide, by decide, by decide⟩ (Nat.le_of_ble_eq_true rfl) rfl dX8_paste_10 ?_
    refine z_if_eq 35 (by decide) dX8_paste_13 (z_br zb_0 (fun h3 => ?_)) (z_br zb_n (fun h4 => ?_))
    · refine z_iconst (nI 0) (by decide) dX8_paste_35 ?_
      refine z_istore (by decide) rfl dX8_paste_36 ?_
      refine z_iload rfl dX8_paste_38 ?_
      refine z_if_eq 58 (by decide) dX8_paste_40 (fun _ => ?_) (fun h => absurd h (by decide))
      refine z_iconst (nI 0) (by decide) dX8_paste_58 ?_
      refine z_istore (by decide) rfl dX8_paste_59 ?_
      refine z_iload rfl dX8_paste_61 ?_
      refine z_if_eq 96 (by decide) dX8_paste_63 (fun _ => ?_) (fun h => absurd h (by decide))
      refine z_iconst (nI 0) (by decide) dX8_paste_96 ?_
      refine z_istore (by decide) rfl dX8_paste_97 ?_
      refine z_iload rfl dX8_paste_99 ?_
      refine z_if_eq 128 (by decide) dX8_paste_101 (fun _ => ?_) (fun h => absurd h (by decide))
      refine z_iconst (nI 0) (by decide) dX8_paste_128 ?_
      refine z_istore (by decide) rfl dX8_paste_129 ?_
      refine z_iload rfl dX8_paste_131 ?_
      refine z_if_eq 160 (by decide) dX8_paste_133 (fun _ => ?_) (fun h => absurd h (by decide))
      refine z_iconst (nI 0) (by decide) dX8_paste_160 ?_
      refine z_istore (by decide) rfl dX8_paste_161 ?_
      refine z_iload rfl dX8_paste_163 ?_
      refine z_if_eq 187 (by decide) dX8_paste_165 (fun _ => ?_) (fun h => absurd h (by decide))
      refine z_iconst (nI 0) (by decide) dX8_paste_187 ?_
      refine z_istore (by decide) rfl dX8_paste_188 ?_
      refine z_iload_n rfl rfl dX8_paste_190 ?_
      refine z_istore (by decide) rfl dX8_paste_191 ?_
      refine z_iload rfl dX8_paste_193 ?_
      refine z_if_eq 246 (by decide) dX8_paste_195 (fun _ => ?_) (fun h => absurd h (by decide))
      refine z_aload_n rfl rfl dX8_paste_246 ?_
      refine z_iload rfl dX8_paste_247 ?_
      refine z_if_ne 256 (by decide) dX8_paste_249 (fun h => absurd h (by decide)) (fun _ => ?_)
      refine z_iconst (nI 1) (by decide) dX8_paste_252 ?_
      refine z_goto 275 (by decide) dX8_paste_253 ?_
      refine m_putI kf_X8_92 (zl_a rfl rfl) rfl dX8_paste_275 ?_
      refine z_aload_n rfl rfl dX8_paste_278 ?_
      refine m_getI kf_X8_92 (zl_a rfl rfl) rfl dX8_paste_279 ?_
      refine m_eqv (w := nI 1) (rfl) ?_
      refine z_if_le 287 (by decide) dX8_paste_282 (fun h => absurd h (by decide)) (fun _ => ?_)
      refine z_iconst (nI 0) (by decide) dX8_paste_285 ?_
      exact z_iret (rfl) rfl (znarI _) (by decide) (by decide) dX8_paste_286
    · refine z_iload_n rfl rfl dX8_paste_16 ?_
      refine z_callS (as := [.int (r)]) (ctg_X8_isPoint (r)) ko_X8_isPoint kl_X8_113 rfl rfl ⟨by decide, by decide, by decide, by decide⟩ (Nat.le_of_ble_eq_true rfl) rfl dX8_paste_17 ?_
      refine z_if_eq 35 (by decide) dX8_paste_20 (z_br zb_0 (fun h5 => ?_)) (z_br zb_n (fun h6 => ?_))
      · refine z_iconst (nI 0) (by decide) dX8_paste_35 ?_
        refine z_istore (by decide) rfl dX8_paste_36 ?_
        refine z_iload rfl dX8_paste_38 ?_
        refine z_if_eq 58 (by decide) dX8_paste_40 (fun _ => ?_) (fun h => absurd h (by decide))
        refine z_iconst (nI 0) (by decide) dX8_paste_58 ?_
        refine z_istore (by decide) rfl dX8_paste_59 ?_
        refine z_iload rfl dX8_paste_61 ?_
        refine z_if_eq 96 (by decide) dX8_paste_63 (fun _ => ?_) (fun h => absurd h (by decide))
        refine z_iconst (nI 0) (by decide) dX8_paste_96 ?_
        refine z_istore (by decide) rfl dX8_paste_97 ?_
        refine z_iload rfl dX8_paste_99 ?_
        refine z_if_eq 128 (by decide) dX8_paste_101 (fun _ => ?_) (fun h => absurd h (by decide))
        refine z_iconst (nI 0) (by decide) dX8_paste_128 ?_
        refine z_istore (by decide) rfl dX8_paste_129 ?_
        refine z_iload rfl dX8_paste_131 ?_
        refine z_if_eq 160 (by decide) dX8_paste_133 (fun _ => ?_) (fun h => absurd h (by decide))
        refine z_iconst (nI 0) (by decide) dX8_paste_160 ?_
        refine z_istore (by decide) rfl dX8_paste_161 ?_
        refine z_iload rfl dX8_paste_163 ?_
        refine z_if_eq 187 (by decide) dX8_paste_165 (fun _ => ?_) (fun h => absurd h (by decide))
        refine z_iconst (nI 0) (by decide) dX8_paste_187 ?_
        refine z_istore (by decide) rfl dX8_paste_188 ?_
        refine z_iload_n rfl rfl dX8_paste_190 ?_
        refine z_istore (by decide) rfl dX8_paste_191 ?_
        refine z_iload rfl dX8_paste_193 ?_
        refine z_if_eq 246 (by decide) dX8_paste_195 (fun _ => ?_) (fun h => absurd h (by decide))
        refine z_aload_n rfl rfl dX8_paste_246 ?_
        refine z_iload rfl dX8_paste_247 ?_
        refine z_if_ne 256 (by decide) dX8_paste_249 (fun h => absurd h (by decide)) (fun _ => ?_)
        refine z_iconst (nI 1) (by decide) dX8_paste_252 ?_
        refine z_goto 275 (by decide) dX8_paste_253 ?_
        refine m_putI kf_X8_92 (zl_a rfl rfl) rfl dX8_paste_275 ?_
        refine z_aload_n rfl rfl dX8_paste_278 ?_
        refine m_getI kf_X8_92 (zl_a rfl rfl) rfl dX8_paste_279 ?_
        refine m_eqv (w := nI 1) (rfl) ?_
        refine z_if_le 287 (by decide) dX8_paste_282 (fun h => absurd h (by decide)) (fun _ => ?_)
        refine z_iconst (nI 0) (by decide) dX8_paste_285 ?_
        exact z_iret (rfl) rfl (znarI _) (by decide) (by decide) dX8_paste_286
      · refine z_iload rfl dX8_paste_23 ?_
        refine z_callS (as := [.int (w)]) (ctg_X8_isPoint (w)) ko_X8_isPoint kl_X8_113 rfl rfl ⟨by decide, by decide, by decide, by decide⟩ (Nat.le_of_ble_eq_true rfl) rfl dX8_paste_25 ?_
        refine z_if_eq 35 (by decide) dX8_paste_28 (z_br zb_0 (fun h7 => ?_)) (z_br zb_n (fun h8 => ?_))
        · refine z_iconst (nI 0) (by decide) dX8_paste_35 ?_
          refine z_istore (by decide) rfl dX8_paste_36 ?_
          refine z_iload rfl dX8_paste_38 ?_
          refine z_if_eq 58 (by decide) dX8_paste_40 (fun _ => ?_) (fun h => absurd h (by decide))
          refine z_iconst (nI 0) (by decide) dX8_paste_58 ?_
          refine z_istore (by decide) rfl dX8_paste_59 ?_
          refine z_iload rfl dX8_paste_61 ?_
          refine z_if_eq 96 (by decide) dX8_paste_63 (fun _ => ?_) (fun h => absurd h (by decide))
          refine z_iconst (nI 0) (by decide) dX8_paste_96 ?_
          refine z_istore (by decide) rfl dX8_paste_97 ?_
          refine z_iload rfl dX8_paste_99 ?_
          refine z_if_eq 128 (by decide) dX8_paste_101 (fun _ => ?_) (fun h => absurd h (by decide))
          refine z_iconst (nI 0) (by decide) dX8_paste_128 ?_
          refine z_istore (by decide) rfl dX8_paste_129 ?_
          refine z_iload rfl dX8_paste_131 ?_
          refine z_if_eq 160 (by decide) dX8_paste_133 (fun _ => ?_) (fun h => absurd h (by decide))
          refine z_iconst (nI 0) (by decide) dX8_paste_160 ?_
          refine z_istore (by decide) rfl dX8_paste_161 ?_
          refine z_iload rfl dX8_paste_163 ?_
          refine z_if_eq 187 (by decide) dX8_paste_165 (fun _ => ?_) (fun h => absurd h (by decide))
          refine z_iconst (nI 0) (by decide) dX8_paste_187 ?_
          refine z_istore (by decide) rfl dX8_paste_188 ?_
          refine z_iload_n rfl rfl dX8_paste_190 ?_
          refine z_istore (by decide) rfl dX8_paste_191 ?_
          refine z_iload rfl dX8_paste_193 ?_
          refine z_if_eq 246 (by decide) dX8_paste_195 (fun _ => ?_) (fun h => absurd h (by decide))
          refine z_aload_n rfl rfl dX8_paste_246 ?_
          refine z_iload rfl dX8_paste_247 ?_
          refine z_if_ne 256 (by decide) dX8_paste_249 (fun h => absurd h (by decide)) (fun _ => ?_)
          refine z_iconst (nI 1) (by decide) dX8_paste_252 ?_
          refine z_goto 275 (by decide) dX8_paste_253 ?_
          refine m_putI kf_X8_92 (zl_a rfl rfl) rfl dX8_paste_275 ?_
          refine z_aload_n rfl rfl dX8_paste_278 ?_
          refine m_getI kf_X8_92 (zl_a rfl rfl) rfl dX8_paste_279 ?_
          refine m_eqv (w := nI 1) (rfl) ?_
          refine z_if_le 287 (by decide) dX8_paste_282 (fun h => absurd h (by decide)) (fun _ => ?_)
          refine z_iconst (nI 0) (by decide) dX8_paste_285 ?_
          exact z_iret (rfl) rfl (znarI _) (by decide) (by decide) dX8_paste_286
        · exact absurd (by repeat' (first | assumption | apply And.intro)) hbad
set_option maxRecDepth 100000 in
set_option maxHeartbeats 4000000 in
theorem lp1_X8_paste {E : Nat × (Nat → Int32)} {g : Int64} {μ : zMu} {a b f t nf : Nat} (ha : a < 12) (hb : b < 12) (hf : f ≤ t) (ht : t < 24) {x y : Int32} (hlk : ∀ p, p < 24 → zlks μ p) (hst : ∀ p, p < 24 → dst μ p a nf (dl0 μ b p)) {O : zO} : ∀ (n : Nat) (m : Nat), t + 1 - f - m = n → m ≤ t + 1 - f → (∀ i, i < m → dpP μ a b nf x y (f + i)) → ((∀ i, i < t + 1 - f → dpP μ a b nf x y (f + i)) → zV false E kX8_paste 145 O 246 [.ref (117), .int (nI a), .int (nI b), .int (nI f), .int (nI t), .int (nI 1), .int (nI 1), .null, .int (x), .int (y), .int (nI 1), .null, .null, .null, .null] [] (zm μ g) 0 0) → (¬ (∀ i, i < t + 1 - f → dpP μ a b nf x y (f + i)) → zV false E kX8_paste 145 O 246 [.ref (117), .int (nI a), .int (nI b), .int (nI f), .int (nI t), .int (nI 1), .int (nI 1), .null, .int (x), .int (y), .int (nI 0), .null, .null, .null, .null] [] (zm μ g) 0 0) → zV false E kX8_paste 145 O 198 [.ref (117), .int (nI a), .int (nI b), .int (nI f), .int (nI t), .int (nI 1), .int (nI 1), .null, .int (x), .int (y), .int (nI 1), .int (nI (f + m)), .null, .null, .null] [] (zm μ g) 0 0 := by
  intro n
  induction n using Nat.strongRecOn with
  | ind n ih =>
    intro m hm hle hs kk1 kk0
    refine z_iload rfl dX8_paste_198 ?_
    refine z_iload rfl dX8_paste_200 ?_
    refine z_icmp_gt 246 (by decide) dX8_paste_202 (z_br (zcn (n := t) (by omega) (f + m) (by omega)).2.1 (fun h1 => ?_)) (z_brn (zcn (n := t) (by omega) (f + m) (by omega)).2.1 (fun h2 => ?_))
    · refine z_fgt [.ref (117), .int (nI a), .int (nI b), .int (nI f), .int (nI t), .int (nI 1), .int (nI 1), .null, .int (x), .int (y), .int (nI 1), .null, .null, .null, .null] ⟨Or.inl rfl, ⟨Or.inl rfl, ⟨Or.inl rfl, ⟨Or.inl rfl, ⟨Or.inl rfl, ⟨Or.inl rfl, ⟨Or.inl rfl, ⟨Or.inl rfl, ⟨Or.inl rfl, ⟨Or.inl rfl, ⟨Or.inl rfl, ⟨Or.inr rfl, ⟨Or.inl rfl, ⟨Or.inl rfl, ⟨Or.inl rfl, trivial⟩⟩⟩⟩⟩⟩⟩⟩⟩⟩⟩⟩⟩⟩⟩ ?_
      exact kk1 (fun i hi => hs i (by omega))
    · refine z_aload_n rfl rfl dX8_paste_205 ?_
      refine z_iload_n rfl rfl dX8_paste_206 ?_
      refine z_iload_n rfl rfl dX8_paste_207 ?_
      refine z_iload rfl dX8_paste_208 ?_
      refine z_callV (as := [.int (nI a), .int (nI b), .int (nI (f + m))]) (ct_X8_isInChain (a := a) (b := b) (p := f + m) (by omega) (by omega) (by omega) (hlk (f + m) (by omega)) (n := nf) (hst (f + m) (by omega))) ko_X8_isInChain kl_X8_146 rfl (zl_a rfl rfl) rfl rfl ⟨by decide, by decide, by decide, by decide⟩ (Nat.le_of_ble_eq_true rfl) rfl dX8_paste_210 ?_
      refine z_if_ne 237 (by decide) dX8_paste_213 (z_br zB_n (fun h3 => ?_)) (z_br zB_0 (fun h4 => ?_))
      · refine z_iconst (nI 0) (by decide) dX8_paste_237 ?_
        refine z_istore (by decide) rfl dX8_paste_238 ?_
        refine z_iinc (nI (f + m + 1)) rfl (zinc _) (by decide) rfl dX8_paste_240 ?_
        refine z_goto 193 (by decide) dX8_paste_243 ?_
        refine z_iload rfl dX8_paste_193 ?_
        refine z_if_eq 246 (by decide) dX8_paste_195 (fun _ => ?_) (fun h => absurd h (by decide))
        refine z_fgt [.ref (117), .int (nI a), .int (nI b), .int (nI f), .int (nI t), .int (nI 1), .int (nI 1), .null, .int (x), .int (y), .int (nI 0), .null, .null, .null, .null] ⟨Or.inl rfl, ⟨Or.inl rfl, ⟨Or.inl rfl, ⟨Or.inl rfl, ⟨Or.inl rfl, ⟨Or.inl rfl, ⟨Or.inl rfl, ⟨Or.inl rfl, ⟨Or.inl rfl, ⟨Or.inl rfl, ⟨Or.inl rfl, ⟨Or.inr rfl, ⟨Or.inl rfl, ⟨Or.inl rfl, ⟨Or.inl rfl, trivial⟩⟩⟩⟩⟩⟩⟩⟩⟩⟩⟩⟩⟩⟩⟩ ?_
        exact kk0 (fun q => by first | exact (q m (by omega)).1 h3 | exact h3 (q m (by omega)).2)
      · refine z_aload_n rfl rfl dX8_paste_216 ?_
        refine z_iload_n rfl rfl dX8_paste_217 ?_
        refine z_iload rfl dX8_paste_218 ?_
        refine z_callS (as := [.int (nI b), .int (nI (f + m))]) (ct_X8_spot (b) (f + m)) ko_X8_spot kl_X8_122 rfl rfl ⟨by decide, by decide, by decide, by decide⟩ (Nat.le_of_ble_eq_true rfl) rfl dX8_paste_220 ?_
        refine z_iload rfl dX8_paste_223 ?_
        refine z_iload rfl dX8_paste_225 ?_
        refine z_callV (as := [.int (nI (24 * b + (f + m))), .int (x), .int (y)]) (ct_X8_isNear (i := 24 * b + (f + m)) (by omega) (x) (y)) ko_X8_isNear kl_X8_149 rfl (zl_a rfl rfl) rfl rfl ⟨by decide, by decide, by decide, by decide⟩ (Nat.le_of_ble_eq_true rfl) rfl dX8_paste_227 ?_
        refine z_if_eq 237 (by decide) dX8_paste_230 (z_br zb_0 (fun h5 => ?_)) (z_br zb_n (fun h6 => ?_))
        · refine z_iconst (nI 0) (by decide) dX8_paste_237 ?_
          refine z_istore (by decide) rfl dX8_paste_238 ?_
          refine z_iinc (nI (f + m + 1)) rfl (zinc _) (by decide) rfl dX8_paste_240 ?_
          refine z_goto 193 (by decide) dX8_paste_243 ?_
          refine z_iload rfl dX8_paste_193 ?_
          refine z_if_eq 246 (by decide) dX8_paste_195 (fun _ => ?_) (fun h => absurd h (by decide))
          refine z_fgt [.ref (117), .int (nI a), .int (nI b), .int (nI f), .int (nI t), .int (nI 1), .int (nI 1), .null, .int (x), .int (y), .int (nI 0), .null, .null, .null, .null] ⟨Or.inl rfl, ⟨Or.inl rfl, ⟨Or.inl rfl, ⟨Or.inl rfl, ⟨Or.inl rfl, ⟨Or.inl rfl, ⟨Or.inl rfl, ⟨Or.inl rfl, ⟨Or.inl rfl, ⟨Or.inl rfl, ⟨Or.inl rfl, ⟨Or.inr rfl, ⟨Or.inl rfl, ⟨Or.inl rfl, ⟨Or.inl rfl, trivial⟩⟩⟩⟩⟩⟩⟩⟩⟩⟩⟩⟩⟩⟩⟩ ?_
          exact kk0 (fun q => by first | exact (q m (by omega)).1 h5 | exact h5 (q m (by omega)).2)
        · refine z_iconst (nI 1) (by decide) dX8_paste_233 ?_
          refine z_goto 238 (by decide) dX8_paste_234 ?_
          refine z_istore (by decide) rfl dX8_paste_238 ?_
          refine z_iinc (nI (f + m + 1)) rfl (zinc _) (by decide) rfl dX8_paste_240 ?_
          refine z_goto 193 (by decide) dX8_paste_243 ?_
          refine z_iload rfl dX8_paste_193 ?_
          refine z_if_eq 246 (by decide) dX8_paste_195 (fun h => absurd h (by decide)) (fun _ => ?_)
          exact ih (t + 1 - f - (m + 1)) (by omega) (m + 1) rfl (by omega) (fun i hi => by
            rcases Nat.lt_succ_iff_lt_or_eq.mp hi with q | q
            · exact hs i q
            · subst q; exact ⟨h4, h6⟩) kk1 kk0
set_option maxRecDepth 100000 in
set_option maxHeartbeats 4000000 in
theorem lp2_X8_paste {E : Nat × (Nat → Int32)} {g : Int64} {μ : zMu} {a b f t : Nat} (ha : a < 12) (hb : b < 12) (hf : f ≤ t) (ht : t < 24) {x y : Int32} : ∀ (n : Nat) (m : Nat) (s : Int32) (ν : zMu), (t + 1 - f) - m = n → m ≤ (t + 1 - f) → (s, ν) = zit (dpa a b x y) f m (nI 0, μ) → (∀ i, i < 288 → ν 130 i = 0 ∨ ν 130 i = 1) → zV false E kX8_paste 145 (.inl (some (.int (zit (dpa a b x y) f (t + 1 - f) (nI 0, μ)).1)), zm (zit (dpa a b x y) f (t + 1 - f) (nI 0, μ)).2 g) 293 [.ref (117), .int (nI a), .int (nI b), .int (nI f), .int (nI t), .null, .null, .null, .int (x), .int (y), .null, .int (s), .int (nI (f + m)), .null, .null] [] (zm ν g) 0 0 := by
  intro n
  induction n using Nat.strongRecOn with
  | ind n ih =>
    intro m s ν hm hle hs hB
    refine z_iload rfl dX8_paste_293 ?_
    refine z_iload rfl dX8_paste_295 ?_
    refine z_icmp_gt 426 (by decide) dX8_paste_297 (z_br (zcn (n := t) (by omega) (f + m) (by omega)).2.1 (fun h1 => ?_)) (z_brn (zcn (n := t) (by omega) (f + m) (by omega)).2.1 (fun h2 => ?_))
    · have hmL : m = (t + 1 - f) := by omega
      have hz : zit (dpa a b x y) f ((t + 1 - f)) (nI 0, μ) = (s, ν) := by rw [hs, hmL]
      refine z_iload rfl dX8_paste_426 ?_
      exact z_iret (by rw [hz]) rfl (znarI _) (by decide) (by decide) dX8_paste_428
    · refine z_iload_n rfl rfl dX8_paste_300 ?_
      refine z_iload rfl dX8_paste_301 ?_
      refine z_callS (as := [.int (nI b), .int (nI (f + m))]) (ct_X8_spot (b) (f + m)) ko_X8_spot kl_X8_122 rfl rfl ⟨by decide, by decide, by decide, by decide⟩ (Nat.le_of_ble_eq_true rfl) rfl dX8_paste_303 ?_
      refine z_istore (by decide) rfl dX8_paste_306 ?_
      refine z_iload_n rfl rfl dX8_paste_308 ?_
      refine z_iload rfl dX8_paste_309 ?_
      refine z_callS (as := [.int (nI a), .int (nI (f + m))]) (ct_X8_spot (a) (f + m)) ko_X8_spot kl_X8_122 rfl rfl ⟨by decide, by decide, by decide, by decide⟩ (Nat.le_of_ble_eq_true rfl) rfl dX8_paste_311 ?_
      refine z_istore (by decide) rfl dX8_paste_314 ?_
      refine z_aload_n rfl rfl dX8_paste_316 ?_
      refine m_getR (130) kf_X8_46 (zl_a rfl rfl) rfl rfl (by decide) dX8_paste_317 ?_
      refine z_iload rfl dX8_paste_320 ?_
      refine z_aload_n rfl rfl dX8_paste_322 ?_
      refine m_getR (130) kf_X8_46 (zl_a rfl rfl) rfl rfl (by decide) dX8_paste_323 ?_
      refine z_iload rfl dX8_paste_326 ?_
      refine m_zald (24 * b + (f + m)) (zl_a rfl rfl) rfl (by omega) (by decide) dX8_paste_328 ?_
      refine m_zast (24 * a + (f + m)) (zl_a rfl rfl) rfl (by omega) (by decide) (hB _ (by omega)) dX8_paste_329 ?_
      refine z_aload_n rfl rfl dX8_paste_330 ?_
      refine m_getR (131) kf_X8_50 (zl_a rfl rfl) rfl rfl (by decide) dX8_paste_331 ?_
      refine z_iload rfl dX8_paste_334 ?_
      refine z_aload_n rfl rfl dX8_paste_336 ?_
      refine m_getR (131) kf_X8_50 (zl_a rfl rfl) rfl rfl (by decide) dX8_paste_337 ?_
      refine z_iload rfl dX8_paste_340 ?_
      refine m_iald (24 * b + (f + m)) (zl_a rfl rfl) rfl (by omega) (by decide) dX8_paste_342 ?_
      refine z_iload rfl dX8_paste_343 ?_
      refine z_iadd dX8_paste_345 ?_
      refine m_iast (24 * a + (f + m)) (zl_a rfl rfl) rfl (by omega) (by decide) dX8_paste_346 ?_
      refine z_aload_n rfl rfl dX8_paste_347 ?_
      refine m_getR (132) kf_X8_53 (zl_a rfl rfl) rfl rfl (by decide) dX8_paste_348 ?_
      refine z_iload rfl dX8_paste_351 ?_
      refine z_aload_n rfl rfl dX8_paste_353 ?_
      refine m_getR (132) kf_X8_53 (zl_a rfl rfl) rfl rfl (by decide) dX8_paste_354 ?_
      refine z_iload rfl dX8_paste_357 ?_
      refine m_iald (24 * b + (f + m)) (zl_a rfl rfl) rfl (by omega) (by decide) dX8_paste_359 ?_
      refine z_iload rfl dX8_paste_360 ?_
      refine z_iadd dX8_paste_362 ?_
      refine m_iast (24 * a + (f + m)) (zl_a rfl rfl) rfl (by omega) (by decide) dX8_paste_363 ?_
      refine z_aload_n rfl rfl dX8_paste_364 ?_
      refine m_getR (133) kf_X8_56 (zl_a rfl rfl) rfl rfl (by decide) dX8_paste_365 ?_
      refine z_iload rfl dX8_paste_368 ?_
      refine z_aload_n rfl rfl dX8_paste_370 ?_
      refine m_getR (133) kf_X8_56 (zl_a rfl rfl) rfl rfl (by decide) dX8_paste_371 ?_
      refine z_iload rfl dX8_paste_374 ?_
      refine m_iald (24 * b + (f + m)) (zl_a rfl rfl) rfl (by omega) (by decide) dX8_paste_376 ?_
      refine m_iast (24 * a + (f + m)) (zl_a rfl rfl) rfl (by omega) (by decide) dX8_paste_377 ?_
      refine z_aload_n rfl rfl dX8_paste_378 ?_
      refine m_getR (134) kf_X8_59 (zl_a rfl rfl) rfl rfl (by decide) dX8_paste_379 ?_
      refine z_iload rfl dX8_paste_382 ?_
      refine z_aload_n rfl rfl dX8_paste_384 ?_
      refine m_getR (130) kf_X8_46 (zl_a rfl rfl) rfl rfl (by decide) dX8_paste_385 ?_
      refine z_iload rfl dX8_paste_388 ?_
      refine m_zald (24 * b + (f + m)) (zl_a rfl rfl) rfl (by omega) (by decide) dX8_paste_390 ?_
      refine z_if_eq 398 (by decide) dX8_paste_391 (fun h3 => ?_) (fun h4 => ?_)
      · refine z_iconst (-1) (by decide) dX8_paste_398 ?_
        refine m_iast (24 * a + (f + m)) (zl_a rfl rfl) rfl (by omega) (by decide) dX8_paste_399 ?_
        refine z_iload rfl dX8_paste_400 ?_
        refine z_aload_n rfl rfl dX8_paste_402 ?_
        refine m_getR (130) kf_X8_46 (zl_a rfl rfl) rfl rfl (by decide) dX8_paste_403 ?_
        refine z_iload rfl dX8_paste_406 ?_
        refine m_zald (24 * b + (f + m)) (zl_a rfl rfl) rfl (by omega) (by decide) dX8_paste_408 ?_
        refine z_if_eq 416 (by decide) dX8_paste_409 (fun h5 => ?_) (fun h6 => ?_)
        · refine z_iconst (nI 0) (by decide) dX8_paste_416 ?_
          refine z_iadd dX8_paste_417 ?_
          refine z_istore (by decide) rfl dX8_paste_418 ?_
          refine z_iinc (nI (f + m + 1)) rfl (zinc _) (by decide) rfl dX8_paste_420 ?_
          refine z_goto 293 (by decide) dX8_paste_423 ?_
          refine z_fgt [.ref (117), .int (nI a), .int (nI b), .int (nI f), .int (nI t), .null, .null, .null, .int (x), .int (y), .null, .int (s + (nI 0)), .int (nI (f + m + 1)), .null, .null] ⟨Or.inl rfl, ⟨Or.inl rfl, ⟨Or.inl rfl, ⟨Or.inl rfl, ⟨Or.inl rfl, ⟨Or.inl rfl, ⟨Or.inl rfl, ⟨Or.inl rfl, ⟨Or.inl rfl, ⟨Or.inl rfl, ⟨Or.inl rfl, ⟨Or.inl rfl, ⟨Or.inl rfl, ⟨Or.inr rfl, ⟨Or.inr rfl, trivial⟩⟩⟩⟩⟩⟩⟩⟩⟩⟩⟩⟩⟩⟩⟩ ?_
          exact ih ((t + 1 - f) - (m + 1)) (by omega) (m + 1) (s + (nI 0)) (zu (zu (zu (zu (zu ν (130) (24 * a + (f + m)) (ν (130) (24 * b + (f + m)))) (131) (24 * a + (f + m)) (((zu ν (130) (24 * a + (f + m)) (ν (130) (24 * b + (f + m)))) (131) (24 * b + (f + m))) + x)) (132) (24 * a + (f + m)) (((zu (zu ν (130) (24 * a + (f + m)) (ν (130) (24 * b + (f + m)))) (131) (24 * a + (f + m)) (((zu ν (130) (24 * a + (f + m)) (ν (130) (24 * b + (f + m)))) (131) (24 * b + (f + m))) + x)) (132) (24 * b + (f + m))) + y)) (133) (24 * a + (f + m)) ((zu (zu (zu ν (130) (24 * a + (f + m)) (ν (130) (24 * b + (f + m)))) (131) (24 * a + (f + m)) (((zu ν (130) (24 * a + (f + m)) (ν (130) (24 * b + (f + m)))) (131) (24 * b + (f + m))) + x)) (132) (24 * a + (f + m)) (((zu (zu ν (130) (24 * a + (f + m)) (ν (130) (24 * b + (f + m)))) (131) (24 * a + (f + m)) (((zu ν (130) (24 * a + (f + m)) (ν (130) (24 * b + (f + m)))) (131) (24 * b + (f + m))) + x)) (132) (24 * b + (f + m))) + y)) (133) (24 * b + (f + m)))) (134) (24 * a + (f + m)) (-1)) rfl (by omega) (zst hs (Prod.ext (congrArg (fun z => s + z) (if_pos h3).symm) (congrArg (zu _ 134 _) (if_pos h3).symm))) (fun i hi => by rw [zu_r (by decide), zu_r (by decide), zu_r (by decide), zu_r (by decide)]; exact zuB hB (hB _ (by omega)) i hi)
        · refine z_iconst (nI 1) (by decide) dX8_paste_412 ?_
          refine z_goto 417 (by decide) dX8_paste_413 ?_
          refine z_iadd dX8_paste_417 ?_
          refine z_istore (by decide) rfl dX8_paste_418 ?_
          refine z_iinc (nI (f + m + 1)) rfl (zinc _) (by decide) rfl dX8_paste_420 ?_
          refine z_goto 293 (by decide) dX8_paste_423 ?_
          refine z_fgt [.ref (117), .int (nI a), .int (nI b), .int (nI f), .int (nI t), .null, .null, .null, .int (x), .int (y), .null, .int (s + (nI 1)), .int (nI (f + m + 1)), .null, .null] ⟨Or.inl rfl, ⟨Or.inl rfl, ⟨Or.inl rfl, ⟨Or.inl rfl, ⟨Or.inl rfl, ⟨Or.inl rfl, ⟨Or.inl rfl, ⟨Or.inl rfl, ⟨Or.inl rfl, ⟨Or.inl rfl, ⟨Or.inl rfl, ⟨Or.inl rfl, ⟨Or.inl rfl, ⟨Or.inr rfl, ⟨Or.inr rfl, trivial⟩⟩⟩⟩⟩⟩⟩⟩⟩⟩⟩⟩⟩⟩⟩ ?_
          exact ih ((t + 1 - f) - (m + 1)) (by omega) (m + 1) (s + (nI 1)) (zu (zu (zu (zu (zu ν (130) (24 * a + (f + m)) (ν (130) (24 * b + (f + m)))) (131) (24 * a + (f + m)) (((zu ν (130) (24 * a + (f + m)) (ν (130) (24 * b + (f + m)))) (131) (24 * b + (f + m))) + x)) (132) (24 * a + (f + m)) (((zu (zu ν (130) (24 * a + (f + m)) (ν (130) (24 * b + (f + m)))) (131) (24 * a + (f + m)) (((zu ν (130) (24 * a + (f + m)) (ν (130) (24 * b + (f + m)))) (131) (24 * b + (f + m))) + x)) (132) (24 * b + (f + m))) + y)) (133) (24 * a + (f + m)) ((zu (zu (zu ν (130) (24 * a + (f + m)) (ν (130) (24 * b + (f + m)))) (131) (24 * a + (f + m)) (((zu ν (130) (24 * a + (f + m)) (ν (130) (24 * b + (f + m)))) (131) (24 * b + (f + m))) + x)) (132) (24 * a + (f + m)) (((zu (zu ν (130) (24 * a + (f + m)) (ν (130) (24 * b + (f + m)))) (131) (24 * a + (f + m)) (((zu ν (130) (24 * a + (f + m)) (ν (130) (24 * b + (f + m)))) (131) (24 * b + (f + m))) + x)) (132) (24 * b + (f + m))) + y)) (133) (24 * b + (f + m)))) (134) (24 * a + (f + m)) (-1)) rfl (by omega) (zst hs (absurd h3 h6)) (fun i hi => by rw [zu_r (by decide), zu_r (by decide), zu_r (by decide), zu_r (by decide)]; exact zuB hB (hB _ (by omega)) i hi)
      · refine z_iload_n rfl rfl dX8_paste_394 ?_
        refine z_goto 399 (by decide) dX8_paste_395 ?_
        refine m_iast (24 * a + (f + m)) (zl_a rfl rfl) rfl (by omega) (by decide) dX8_paste_399 ?_
        refine z_iload rfl dX8_paste_400 ?_
        refine z_aload_n rfl rfl dX8_paste_402 ?_
        refine m_getR (130) kf_X8_46 (zl_a rfl rfl) rfl rfl (by decide) dX8_paste_403 ?_
        refine z_iload rfl dX8_paste_406 ?_
        refine m_zald (24 * b + (f + m)) (zl_a rfl rfl) rfl (by omega) (by decide) dX8_paste_408 ?_
        refine z_if_eq 416 (by decide) dX8_paste_409 (fun h7 => ?_) (fun h8 => ?_)
        · refine z_iconst (nI 0) (by decide) dX8_paste_416 ?_
          refine z_iadd dX8_paste_417 ?_
          refine z_istore (by decide) rfl dX8_paste_418 ?_
          refine z_iinc (nI (f + m + 1)) rfl (zinc _) (by decide) rfl dX8_paste_420 ?_
          refine z_goto 293 (by decide) dX8_paste_423 ?_
          refine z_fgt [.ref (117), .int (nI a), .int (nI b), .int (nI f), .int (nI t), .null, .null, .null, .int (x), .int (y), .null, .int (s + (nI 0)), .int (nI (f + m + 1)), .null, .null] ⟨Or.inl rfl, ⟨Or.inl rfl, ⟨Or.inl rfl, ⟨Or.inl rfl, ⟨Or.inl rfl, ⟨Or.inl rfl, ⟨Or.inl rfl, ⟨Or.inl rfl, ⟨Or.inl rfl, ⟨Or.inl rfl, ⟨Or.inl rfl, ⟨Or.inl rfl, ⟨Or.inl rfl, ⟨Or.inr rfl, ⟨Or.inr rfl, trivial⟩⟩⟩⟩⟩⟩⟩⟩⟩⟩⟩⟩⟩⟩⟩ ?_
          exact ih ((t + 1 - f) - (m + 1)) (by omega) (m + 1) (s + (nI 0)) (zu (zu (zu (zu (zu ν (130) (24 * a + (f + m)) (ν (130) (24 * b + (f + m)))) (131) (24 * a + (f + m)) (((zu ν (130) (24 * a + (f + m)) (ν (130) (24 * b + (f + m)))) (131) (24 * b + (f + m))) + x)) (132) (24 * a + (f + m)) (((zu (zu ν (130) (24 * a + (f + m)) (ν (130) (24 * b + (f + m)))) (131) (24 * a + (f + m)) (((zu ν (130) (24 * a + (f + m)) (ν (130) (24 * b + (f + m)))) (131) (24 * b + (f + m))) + x)) (132) (24 * b + (f + m))) + y)) (133) (24 * a + (f + m)) ((zu (zu (zu ν (130) (24 * a + (f + m)) (ν (130) (24 * b + (f + m)))) (131) (24 * a + (f + m)) (((zu ν (130) (24 * a + (f + m)) (ν (130) (24 * b + (f + m)))) (131) (24 * b + (f + m))) + x)) (132) (24 * a + (f + m)) (((zu (zu ν (130) (24 * a + (f + m)) (ν (130) (24 * b + (f + m)))) (131) (24 * a + (f + m)) (((zu ν (130) (24 * a + (f + m)) (ν (130) (24 * b + (f + m)))) (131) (24 * b + (f + m))) + x)) (132) (24 * b + (f + m))) + y)) (133) (24 * b + (f + m)))) (134) (24 * a + (f + m)) (nI b)) rfl (by omega) (zst hs (absurd h7 h4)) (fun i hi => by rw [zu_r (by decide), zu_r (by decide), zu_r (by decide), zu_r (by decide)]; exact zuB hB (hB _ (by omega)) i hi)
        · refine z_iconst (nI 1) (by decide) dX8_paste_412 ?_
          refine z_goto 417 (by decide) dX8_paste_413 ?_
          refine z_iadd dX8_paste_417 ?_
          refine z_istore (by decide) rfl dX8_paste_418 ?_
          refine z_iinc (nI (f + m + 1)) rfl (zinc _) (by decide) rfl dX8_paste_420 ?_
          refine z_goto 293 (by decide) dX8_paste_423 ?_
          refine z_fgt [.ref (117), .int (nI a), .int (nI b), .int (nI f), .int (nI t), .null, .null, .null, .int (x), .int (y), .null, .int (s + (nI 1)), .int (nI (f + m + 1)), .null, .null] ⟨Or.inl rfl, ⟨Or.inl rfl, ⟨Or.inl rfl, ⟨Or.inl rfl, ⟨Or.inl rfl, ⟨Or.inl rfl, ⟨Or.inl rfl, ⟨Or.inl rfl, ⟨Or.inl rfl, ⟨Or.inl rfl, ⟨Or.inl rfl, ⟨Or.inl rfl, ⟨Or.inl rfl, ⟨Or.inr rfl, ⟨Or.inr rfl, trivial⟩⟩⟩⟩⟩⟩⟩⟩⟩⟩⟩⟩⟩⟩⟩ ?_
          exact ih ((t + 1 - f) - (m + 1)) (by omega) (m + 1) (s + (nI 1)) (zu (zu (zu (zu (zu ν (130) (24 * a + (f + m)) (ν (130) (24 * b + (f + m)))) (131) (24 * a + (f + m)) (((zu ν (130) (24 * a + (f + m)) (ν (130) (24 * b + (f + m)))) (131) (24 * b + (f + m))) + x)) (132) (24 * a + (f + m)) (((zu (zu ν (130) (24 * a + (f + m)) (ν (130) (24 * b + (f + m)))) (131) (24 * a + (f + m)) (((zu ν (130) (24 * a + (f + m)) (ν (130) (24 * b + (f + m)))) (131) (24 * b + (f + m))) + x)) (132) (24 * b + (f + m))) + y)) (133) (24 * a + (f + m)) ((zu (zu (zu ν (130) (24 * a + (f + m)) (ν (130) (24 * b + (f + m)))) (131) (24 * a + (f + m)) (((zu ν (130) (24 * a + (f + m)) (ν (130) (24 * b + (f + m)))) (131) (24 * b + (f + m))) + x)) (132) (24 * a + (f + m)) (((zu (zu ν (130) (24 * a + (f + m)) (ν (130) (24 * b + (f + m)))) (131) (24 * a + (f + m)) (((zu ν (130) (24 * a + (f + m)) (ν (130) (24 * b + (f + m)))) (131) (24 * b + (f + m))) + x)) (132) (24 * b + (f + m))) + y)) (133) (24 * b + (f + m)))) (134) (24 * a + (f + m)) (nI b)) rfl (by omega) (zst hs (Prod.ext (congrArg (fun z => s + z) (if_neg h4).symm) (congrArg (zu _ 134 _) (if_neg h4).symm))) (fun i hi => by rw [zu_r (by decide), zu_r (by decide), zu_r (by decide), zu_r (by decide)]; exact zuB hB (hB _ (by omega)) i hi)
set_option maxRecDepth 100000 in
set_option maxHeartbeats 4000000 in
theorem rs_X8_paste {E : Nat × (Nat → Int32)} {μ : Nat → Nat → Int32} {g : Int64} {a b f t nf : Nat} (ha : a < 12) (hb : b < 12) (hf : f ≤ t) (ht : t < 24) {x y : Int32} (hlk : ∀ p, p < 24 → zlks μ p) (hst : ∀ p, p < 24 → dst μ p a nf (dl0 μ b p)) (hB : ∀ i, i < 288 → μ 130 i = 0 ∨ μ 130 i = 1)  : zV false E kX8_paste 145 (if zB (¬ μ 128 a < μ 128 b ∧ (∀ i, i < t + 1 - f → dpP μ a b nf x y (f + i))) = 0 then (.inl (some (.int (nI 0))), zm ((zu μ 117 0 (nI 3))) g) else (.inl (some (.int ((zit (dpa a b x y) f (t + 1 - f) (nI 0, (zu μ 117 0 (nI 0)))).1))), zm ((zit (dpa a b x y) f (t + 1 - f) (nI 0, (zu μ 117 0 (nI 0)))).2) g) : zO) 163 [.ref (117), .int (nI a), .int (nI b), .int (nI f), .int (nI t), .int (nI 1), .int (nI 1), .null, .int (x), .int (y), .null, .null, .null, .null, .null] [] (zm μ g) 0 0 := by
  refine z_iload rfl dX8_paste_163 ?_
  refine z_if_eq 187 (by decide) dX8_paste_165 (fun h => absurd h (by decide)) (fun _ => ?_)
  refine z_aload_n rfl rfl dX8_paste_168 ?_
  refine m_getR (128) kf_X8_40 (zl_a rfl rfl) rfl rfl (by decide) dX8_paste_169 ?_
  refine z_iload_n rfl rfl dX8_paste_172 ?_
  refine m_iald (b) (zl_a rfl rfl) rfl (by omega) (by decide) dX8_paste_173 ?_
  refine z_aload_n rfl rfl dX8_paste_174 ?_
  refine m_getR (128) kf_X8_40 (zl_a rfl rfl) rfl rfl (by decide) dX8_paste_175 ?_
  refine z_iload_n rfl rfl dX8_paste_178 ?_
  refine m_iald (a) (zl_a rfl rfl) rfl (by omega) (by decide) dX8_paste_179 ?_
  refine z_icmp_gt 187 (by decide) dX8_paste_180 (fun h1 => ?_) (fun h2 => ?_)
  · refine z_iconst (nI 0) (by decide) dX8_paste_187 ?_
    refine z_istore (by decide) rfl dX8_paste_188 ?_
    refine z_iload_n rfl rfl dX8_paste_190 ?_
    refine z_istore (by decide) rfl dX8_paste_191 ?_
    refine z_iload rfl dX8_paste_193 ?_
    refine z_if_eq 246 (by decide) dX8_paste_195 (fun _ => ?_) (fun h => absurd h (by decide))
    refine z_aload_n rfl rfl dX8_paste_246 ?_
    refine z_iload rfl dX8_paste_247 ?_
    refine z_if_ne 256 (by decide) dX8_paste_249 (fun _ => ?_) (fun h => absurd h (by decide))
    refine z_iload rfl dX8_paste_256 ?_
    refine z_if_ne 265 (by decide) dX8_paste_258 (fun _ => ?_) (fun h => absurd h (by decide))
    refine z_iload rfl dX8_paste_265 ?_
    refine z_if_ne 274 (by decide) dX8_paste_267 (fun h => absurd h (by decide)) (fun _ => ?_)
    refine z_iconst (nI 3) (by decide) dX8_paste_270 ?_
    refine z_goto 275 (by decide) dX8_paste_271 ?_
    refine m_putI kf_X8_92 (zl_a rfl rfl) rfl dX8_paste_275 ?_
    refine z_aload_n rfl rfl dX8_paste_278 ?_
    refine m_getI kf_X8_92 (zl_a rfl rfl) rfl dX8_paste_279 ?_
    refine m_eqv (w := nI 3) (rfl) ?_
    refine z_if_le 287 (by decide) dX8_paste_282 (fun h => absurd h (by decide)) (fun _ => ?_)
    refine z_iconst (nI 0) (by decide) dX8_paste_285 ?_
    exact z_iret ((if_pos (zB_0.mpr (fun q => by first | exact hno q.2 | exact q.1 (by assumption)))).trans rfl) rfl (znarI _) (by decide) (by decide) dX8_paste_286
  · refine z_iconst (nI 1) (by decide) dX8_paste_183 ?_
    refine z_goto 188 (by decide) dX8_paste_184 ?_
    refine z_istore (by decide) rfl dX8_paste_188 ?_
    refine z_iload_n rfl rfl dX8_paste_190 ?_
    refine z_istore (by decide) rfl dX8_paste_191 ?_
    refine z_iload rfl dX8_paste_193 ?_
    refine z_if_eq 246 (by decide) dX8_paste_195 (fun h => absurd h (by decide)) (fun _ => ?_)
    refine lp1_X8_paste (a := a) (b := b) (f := f) (t := t) (nf := nf) (x := x) (y := y) (by omega) (by omega) (by omega) (by omega) hlk hst _ 0 rfl (Nat.zero_le _) (fun i hi => absurd hi (Nat.not_lt_zero i)) (fun hal => ?_) (fun hno => ?_)
    · refine z_aload_n rfl rfl dX8_paste_246 ?_
      refine z_iload rfl dX8_paste_247 ?_
      refine z_if_ne 256 (by decide) dX8_paste_249 (fun _ => ?_) (fun h => absurd h (by decide))
      refine z_iload rfl dX8_paste_256 ?_
      refine z_if_ne 265 (by decide) dX8_paste_258 (fun _ => ?_) (fun h => absurd h (by decide))
      refine z_iload rfl dX8_paste_265 ?_
      refine z_if_ne 274 (by decide) dX8_paste_267 (fun _ => ?_) (fun h => absurd h (by decide))
      refine z_iconst (nI 0) (by decide) dX8_paste_274 ?_
      refine m_putI kf_X8_92 (zl_a rfl rfl) rfl dX8_paste_275 ?_
      refine z_aload_n rfl rfl dX8_paste_278 ?_
      refine m_getI kf_X8_92 (zl_a rfl rfl) rfl dX8_paste_279 ?_
      refine m_eqv (w := nI 0) (rfl) ?_
      refine z_if_le 287 (by decide) dX8_paste_282 (fun _ => ?_) (fun h => absurd h (by decide))
      refine z_iconst (nI 0) (by decide) dX8_paste_287 ?_
      refine z_istore (by decide) rfl dX8_paste_288 ?_
      refine z_iload_n rfl rfl dX8_paste_290 ?_
      refine z_istore (by decide) rfl dX8_paste_291 ?_
      refine z_oeq ((if_neg (zB_n.mpr ⟨h2, hal⟩)).trans rfl) ?_
      refine z_fgt [.ref (117), .int (nI a), .int (nI b), .int (nI f), .int (nI t), .null, .null, .null, .int (x), .int (y), .null, .int (nI 0), .int (nI f), .null, .null] ⟨Or.inl rfl, ⟨Or.inl rfl, ⟨Or.inl rfl, ⟨Or.inl rfl, ⟨Or.inl rfl, ⟨Or.inr rfl, ⟨Or.inr rfl, ⟨Or.inl rfl, ⟨Or.inl rfl, ⟨Or.inl rfl, ⟨Or.inr rfl, ⟨Or.inl rfl, ⟨Or.inl rfl, ⟨Or.inl rfl, ⟨Or.inl rfl, trivial⟩⟩⟩⟩⟩⟩⟩⟩⟩⟩⟩⟩⟩⟩⟩ ?_
      exact lp2_X8_paste (μ := (zu μ 117 0 (nI 0))) (a := a) (b := b) (f := f) (t := t) (by omega) (by omega) (by omega) (by omega) _ 0 _ _ rfl (Nat.zero_le _) rfl hB
    · refine z_aload_n rfl rfl dX8_paste_246 ?_
      refine z_iload rfl dX8_paste_247 ?_
      refine z_if_ne 256 (by decide) dX8_paste_249 (fun _ => ?_) (fun h => absurd h (by decide))
      refine z_iload rfl dX8_paste_256 ?_
      refine z_if_ne 265 (by decide) dX8_paste_258 (fun _ => ?_) (fun h => absurd h (by decide))
      refine z_iload rfl dX8_paste_265 ?_
      refine z_if_ne 274 (by decide) dX8_paste_267 (fun h => absurd h (by decide)) (fun _ => ?_)
      refine z_iconst (nI 3) (by decide) dX8_paste_270 ?_
      refine z_goto 275 (by decide) dX8_paste_271 ?_
      refine m_putI kf_X8_92 (zl_a rfl rfl) rfl dX8_paste_275 ?_
      refine z_aload_n rfl rfl dX8_paste_278 ?_
      refine m_getI kf_X8_92 (zl_a rfl rfl) rfl dX8_paste_279 ?_
      refine m_eqv (w := nI 3) (rfl) ?_
      refine z_if_le 287 (by decide) dX8_paste_282 (fun h => absurd h (by decide)) (fun _ => ?_)
      refine z_iconst (nI 0) (by decide) dX8_paste_285 ?_
      exact z_iret ((if_pos (zB_0.mpr (fun q => by first | exact hno q.2 | exact q.1 (by assumption)))).trans rfl) rfl (znarI _) (by decide) (by decide) dX8_paste_286
set_option maxRecDepth 100000 in
set_option maxHeartbeats 4000000 in
theorem ct_X8_paste {E : Nat × (Nat → Int32)} {μ : Nat → Nat → Int32} {g : Int64} {nc : Nat} (hnc : μ 117 13 = nI nc) (hn12 : nc ≤ 12) {a b f t nf : Nat} (ha : a < nc) (hb : b < nc) (hf : f < 24) (ht : t < 24) (hlk : ∀ p, p < 24 → zlks μ p) (hst : ∀ p, p < 24 → dst μ p a nf (dl0 μ b p)) (hB : ∀ i, i < 288 → μ 130 i = 0 ∨ μ 130 i = 1)  : zCt E kX8_paste [.ref (117), .int (nI a), .int (nI b), .int (nI f), .int (nI t)] (zm μ g) (if ¬ (¬ a = b ∧ f ≤ t) then (.inl (some (.int (nI 0))), zm ((zu μ 117 0 (nI 2))) g) else if zB (¬ μ 128 a < μ 128 b ∧ (∀ i, i < t + 1 - f → dpP μ a b nf (dmv μ a b f 131) (dmv μ a b f 132) (f + i))) = 0 then (.inl (some (.int (nI 0))), zm ((zu μ 117 0 (nI 3))) g) else (.inl (some (.int ((zit (dpa a b (dmv μ a b f 131) (dmv μ a b f 132)) f (t + 1 - f) (nI 0, (zu μ 117 0 (nI 0)))).1))), zm ((zit (dpa a b (dmv μ a b f 131) (dmv μ a b f 132)) f (t + 1 - f) (nI 0, (zu μ 117 0 (nI 0)))).2) g) : zO) := by
  refine zCt_of ko_X8_paste (Nat.le_of_ble_eq_true rfl) (zas_r (zas_i (zas_i (zas_i (zas_i zas_0))))) (zMM (zifn rfl (zifn rfl rfl))) (Nat.le_of_ble_eq_true rfl) ?_
  show zV false E kX8_paste 145 _ 0 [.ref (117), .int (nI a), .int (nI b), .int (nI f), .int (nI t), .null, .null, .null, .null, .null, .null, .null, .null, .null, .null] [] (zm μ g) 0 0
  refine z_aload_n rfl rfl dX8_paste_0 ?_
  refine z_iload_n rfl rfl dX8_paste_1 ?_
  refine z_callV (as := [.int (nI a)]) (ct_X8_isChart hnc hn12 (j := a) (by omega)) ko_X8_isChart kl_X8_136 rfl (zl_a rfl rfl) rfl rfl ⟨by decide, by decide, by decide, by decide⟩ (Nat.le_of_ble_eq_true rfl) rfl dX8_paste_2 ?_
  refine z_if_eq 35 (by decide) dX8_paste_5 (fun h => absurd h (by decide)) (fun _ => ?_)
  refine z_aload_n rfl rfl dX8_paste_8 ?_
  refine z_iload_n rfl rfl dX8_paste_9 ?_
  refine z_callV (as := [.int (nI b)]) (ct_X8_isChart hnc hn12 (j := b) (by omega)) ko_X8_isChart kl_X8_136 rfl (zl_a rfl rfl) rfl rfl ⟨by decide, by decide, by decide, by decide⟩ (Nat.le_of_ble_eq_true rfl) rfl dX8_paste_10 ?_
  refine z_if_eq 35 (by decide) dX8_paste_13 (fun h => absurd h (by decide)) (fun _ => ?_)
  refine z_iload_n rfl rfl dX8_paste_16 ?_
  refine z_callS (as := [.int (nI f)]) (ct_X8_isPoint (j := f) (by omega)) ko_X8_isPoint kl_X8_113 rfl rfl ⟨by decide, by decide, by decide, by decide⟩ (Nat.le_of_ble_eq_true rfl) rfl dX8_paste_17 ?_
  refine z_if_eq 35 (by decide) dX8_paste_20 (fun h => absurd h (by decide)) (fun _ => ?_)
  refine z_iload rfl dX8_paste_23 ?_
  refine z_callS (as := [.int (nI t)]) (ct_X8_isPoint (j := t) (by omega)) ko_X8_isPoint kl_X8_113 rfl rfl ⟨by decide, by decide, by decide, by decide⟩ (Nat.le_of_ble_eq_true rfl) rfl dX8_paste_25 ?_
  refine z_if_eq 35 (by decide) dX8_paste_28 (fun h => absurd h (by decide)) (fun _ => ?_)
  refine z_iconst (nI 1) (by decide) dX8_paste_31 ?_
  refine z_goto 36 (by decide) dX8_paste_32 ?_
  refine z_istore (by decide) rfl dX8_paste_36 ?_
  refine z_iload rfl dX8_paste_38 ?_
  refine z_if_eq 58 (by decide) dX8_paste_40 (fun h => absurd h (by decide)) (fun _ => ?_)
  refine z_iload_n rfl rfl dX8_paste_43 ?_
  refine z_iload_n rfl rfl dX8_paste_44 ?_
  refine z_icmp_eq 58 (by decide) dX8_paste_45 (z_br (zcn (n := a) (by omega) (b) (by omega)).1 (fun h1 => ?_)) (z_brn (zcn (n := a) (by omega) (b) (by omega)).1 (fun h2 => ?_))
  · refine z_iconst (nI 0) (by decide) dX8_paste_58 ?_
    refine z_istore (by decide) rfl dX8_paste_59 ?_
    refine z_iload rfl dX8_paste_61 ?_
    refine z_if_eq 96 (by decide) dX8_paste_63 (fun _ => ?_) (fun h => absurd h (by decide))
    refine z_iconst (nI 0) (by decide) dX8_paste_96 ?_
    refine z_istore (by decide) rfl dX8_paste_97 ?_
    refine z_iload rfl dX8_paste_99 ?_
    refine z_if_eq 128 (by decide) dX8_paste_101 (fun _ => ?_) (fun h => absurd h (by decide))
    refine z_iconst (nI 0) (by decide) dX8_paste_128 ?_
    refine z_istore (by decide) rfl dX8_paste_129 ?_
    refine z_iload rfl dX8_paste_131 ?_
    refine z_if_eq 160 (by decide) dX8_paste_133 (fun _ => ?_) (fun h => absurd h (by decide))
    refine z_iconst (nI 0) (by decide) dX8_paste_160 ?_
    refine z_istore (by decide) rfl dX8_paste_161 ?_
    refine z_iload rfl dX8_paste_163 ?_
    refine z_if_eq 187 (by decide) dX8_paste_165 (fun _ => ?_) (fun h => absurd h (by decide))
    refine z_iconst (nI 0) (by decide) dX8_paste_187 ?_
    refine z_istore (by decide) rfl dX8_paste_188 ?_
    refine z_iload_n rfl rfl dX8_paste_190 ?_
    refine z_istore (by decide) rfl dX8_paste_191 ?_
    refine z_iload rfl dX8_paste_193 ?_
    refine z_if_eq 246 (by decide) dX8_paste_195 (fun _ => ?_) (fun h => absurd h (by decide))
    refine z_aload_n rfl rfl dX8_paste_246 ?_
    refine z_iload rfl dX8_paste_247 ?_
    refine z_if_ne 256 (by decide) dX8_paste_249 (fun _ => ?_) (fun h => absurd h (by decide))
    refine z_iload rfl dX8_paste_256 ?_
    refine z_if_ne 265 (by decide) dX8_paste_258 (fun h => absurd h (by decide)) (fun _ => ?_)
    refine z_iconst (nI 2) (by decide) dX8_paste_261 ?_
    refine z_goto 275 (by decide) dX8_paste_262 ?_
    refine m_putI kf_X8_92 (zl_a rfl rfl) rfl dX8_paste_275 ?_
    refine z_aload_n rfl rfl dX8_paste_278 ?_
    refine m_getI kf_X8_92 (zl_a rfl rfl) rfl dX8_paste_279 ?_
    refine m_eqv (w := nI 2) (rfl) ?_
    refine z_if_le 287 (by decide) dX8_paste_282 (fun h => absurd h (by decide)) (fun _ => ?_)
    refine z_iconst (nI 0) (by decide) dX8_paste_285 ?_
    exact z_iret ((if_pos (fun q => by first | exact q.1 (by omega) | exact absurd q.2 (by omega))).trans rfl) rfl (znarI _) (by decide) (by decide) dX8_paste_286
  · refine z_iload rfl dX8_paste_48 ?_
    refine z_iload_n rfl rfl dX8_paste_50 ?_
    refine z_icmp_lt 58 (by decide) dX8_paste_51 (z_br (zcn (n := t) (by omega) (f) (by omega)).2.1 (fun h3 => ?_)) (z_brn (zcn (n := t) (by omega) (f) (by omega)).2.1 (fun h4 => ?_))
    · refine z_iconst (nI 0) (by decide) dX8_paste_58 ?_
      refine z_istore (by decide) rfl dX8_paste_59 ?_
      refine z_iload rfl dX8_paste_61 ?_
      refine z_if_eq 96 (by decide) dX8_paste_63 (fun _ => ?_) (fun h => absurd h (by decide))
      refine z_iconst (nI 0) (by decide) dX8_paste_96 ?_
      refine z_istore (by decide) rfl dX8_paste_97 ?_
      refine z_iload rfl dX8_paste_99 ?_
      refine z_if_eq 128 (by decide) dX8_paste_101 (fun _ => ?_) (fun h => absurd h (by decide))
      refine z_iconst (nI 0) (by decide) dX8_paste_128 ?_
      refine z_istore (by decide) rfl dX8_paste_129 ?_
      refine z_iload rfl dX8_paste_131 ?_
      refine z_if_eq 160 (by decide) dX8_paste_133 (fun _ => ?_) (fun h => absurd h (by decide))
      refine z_iconst (nI 0) (by decide) dX8_paste_160 ?_
      refine z_istore (by decide) rfl dX8_paste_161 ?_
      refine z_iload rfl dX8_paste_163 ?_
      refine z_if_eq 187 (by decide) dX8_paste_165 (fun _ => ?_) (fun h => absurd h (by decide))
      refine z_iconst (nI 0) (by decide) dX8_paste_187 ?_
      refine z_istore (by decide) rfl dX8_paste_188 ?_
      refine z_iload_n rfl rfl dX8_paste_190 ?_
      refine z_istore (by decide) rfl dX8_paste_191 ?_
      refine z_iload rfl dX8_paste_193 ?_
      refine z_if_eq 246 (by decide) dX8_paste_195 (fun _ => ?_) (fun h => absurd h (by decide))
      refine z_aload_n rfl rfl dX8_paste_246 ?_
      refine z_iload rfl dX8_paste_247 ?_
      refine z_if_ne 256 (by decide) dX8_paste_249 (fun _ => ?_) (fun h => absurd h (by decide))
      refine z_iload rfl dX8_paste_256 ?_
      refine z_if_ne 265 (by decide) dX8_paste_258 (fun h => absurd h (by decide)) (fun _ => ?_)
      refine z_iconst (nI 2) (by decide) dX8_paste_261 ?_
      refine z_goto 275 (by decide) dX8_paste_262 ?_
      refine m_putI kf_X8_92 (zl_a rfl rfl) rfl dX8_paste_275 ?_
      refine z_aload_n rfl rfl dX8_paste_278 ?_
      refine m_getI kf_X8_92 (zl_a rfl rfl) rfl dX8_paste_279 ?_
      refine m_eqv (w := nI 2) (rfl) ?_
      refine z_if_le 287 (by decide) dX8_paste_282 (fun h => absurd h (by decide)) (fun _ => ?_)
      refine z_iconst (nI 0) (by decide) dX8_paste_285 ?_
      exact z_iret ((if_pos (fun q => by first | exact q.1 (by omega) | exact absurd q.2 (by omega))).trans rfl) rfl (znarI _) (by decide) (by decide) dX8_paste_286
    · refine z_iconst (nI 1) (by decide) dX8_paste_54 ?_
      refine z_goto 59 (by decide) dX8_paste_55 ?_
      refine z_istore (by decide) rfl dX8_paste_59 ?_
      refine z_iload rfl dX8_paste_61 ?_
      refine z_if_eq 96 (by decide) dX8_paste_63 (fun h => absurd h (by decide)) (fun _ => ?_)
      refine z_aload_n rfl rfl dX8_paste_66 ?_
      refine m_getR (130) kf_X8_46 (zl_a rfl rfl) rfl rfl (by decide) dX8_paste_67 ?_
      refine z_iload_n rfl rfl dX8_paste_70 ?_
      refine z_iload_n rfl rfl dX8_paste_71 ?_
      refine z_callS (as := [.int (nI a), .int (nI f)]) (ct_X8_spot (a) (f)) ko_X8_spot kl_X8_122 rfl rfl ⟨by decide, by decide, by decide, by decide⟩ (Nat.le_of_ble_eq_true rfl) rfl dX8_paste_72 ?_
      refine m_zald (24 * a + f) (zl_a rfl rfl) rfl (by omega) (by decide) dX8_paste_75 ?_
      refine z_if_eq 96 (by decide) dX8_paste_76 (fun h5 => ?_) (fun h6 => ?_)
      · refine z_iconst (nI 0) (by decide) dX8_paste_96 ?_
        refine z_istore (by decide) rfl dX8_paste_97 ?_
        refine z_iload rfl dX8_paste_99 ?_
        refine z_if_eq 128 (by decide) dX8_paste_101 (fun _ => ?_) (fun h => absurd h (by decide))
        refine z_iconst (nI 0) (by decide) dX8_paste_128 ?_
        refine z_istore (by decide) rfl dX8_paste_129 ?_
        refine z_iload rfl dX8_paste_131 ?_
        refine z_if_eq 160 (by decide) dX8_paste_133 (fun _ => ?_) (fun h => absurd h (by decide))
        refine z_iconst (nI 0) (by decide) dX8_paste_160 ?_
        refine z_istore (by decide) rfl dX8_paste_161 ?_
        have hx : dmv μ a b f 131 = nI 0 := if_neg (fun q => by first | exact q.1 h5 | exact q.2 h5)
        have hy : dmv μ a b f 132 = nI 0 := if_neg (fun q => by first | exact q.1 h5 | exact q.2 h5)
        refine z_fgt [.ref (117), .int (nI a), .int (nI b), .int (nI f), .int (nI t), .int (nI 1), .int (nI 1), .null, .int (nI 0), .int (nI 0), .null, .null, .null, .null, .null] ⟨Or.inl rfl, ⟨Or.inl rfl, ⟨Or.inl rfl, ⟨Or.inl rfl, ⟨Or.inl rfl, ⟨Or.inl rfl, ⟨Or.inl rfl, ⟨Or.inr rfl, ⟨Or.inl rfl, ⟨Or.inl rfl, ⟨Or.inl rfl, ⟨Or.inl rfl, ⟨Or.inl rfl, ⟨Or.inl rfl, ⟨Or.inl rfl, trivial⟩⟩⟩⟩⟩⟩⟩⟩⟩⟩⟩⟩⟩⟩⟩ ?_
        rw [hx, hy]
        refine z_oeq ((if_neg (fun q => q ⟨by assumption, by omega⟩)).trans rfl) ?_
        exact rs_X8_paste (a := a) (b := b) (f := f) (t := t) (nf := nf) (by omega) (by omega) (by omega) (by omega) hlk hst hB
      · refine z_aload_n rfl rfl dX8_paste_79 ?_
        refine m_getR (130) kf_X8_46 (zl_a rfl rfl) rfl rfl (by decide) dX8_paste_80 ?_
        refine z_iload_n rfl rfl dX8_paste_83 ?_
        refine z_iload_n rfl rfl dX8_paste_84 ?_
        refine z_callS (as := [.int (nI b), .int (nI f)]) (ct_X8_spot (b) (f)) ko_X8_spot kl_X8_122 rfl rfl ⟨by decide, by decide, by decide, by decide⟩ (Nat.le_of_ble_eq_true rfl) rfl dX8_paste_85 ?_
        refine m_zald (24 * b + f) (zl_a rfl rfl) rfl (by omega) (by decide) dX8_paste_88 ?_
        refine z_if_eq 96 (by decide) dX8_paste_89 (fun h7 => ?_) (fun h8 => ?_)
        · refine z_iconst (nI 0) (by decide) dX8_paste_96 ?_
          refine z_istore (by decide) rfl dX8_paste_97 ?_
          refine z_iload rfl dX8_paste_99 ?_
          refine z_if_eq 128 (by decide) dX8_paste_101 (fun _ => ?_) (fun h => absurd h (by decide))
          refine z_iconst (nI 0) (by decide) dX8_paste_128 ?_
          refine z_istore (by decide) rfl dX8_paste_129 ?_
          refine z_iload rfl dX8_paste_131 ?_
          refine z_if_eq 160 (by decide) dX8_paste_133 (fun _ => ?_) (fun h => absurd h (by decide))
          refine z_iconst (nI 0) (by decide) dX8_paste_160 ?_
          refine z_istore (by decide) rfl dX8_paste_161 ?_
          have hx : dmv μ a b f 131 = nI 0 := if_neg (fun q => by first | exact q.1 h7 | exact q.2 h7)
          have hy : dmv μ a b f 132 = nI 0 := if_neg (fun q => by first | exact q.1 h7 | exact q.2 h7)
          refine z_fgt [.ref (117), .int (nI a), .int (nI b), .int (nI f), .int (nI t), .int (nI 1), .int (nI 1), .null, .int (nI 0), .int (nI 0), .null, .null, .null, .null, .null] ⟨Or.inl rfl, ⟨Or.inl rfl, ⟨Or.inl rfl, ⟨Or.inl rfl, ⟨Or.inl rfl, ⟨Or.inl rfl, ⟨Or.inl rfl, ⟨Or.inr rfl, ⟨Or.inl rfl, ⟨Or.inl rfl, ⟨Or.inl rfl, ⟨Or.inl rfl, ⟨Or.inl rfl, ⟨Or.inl rfl, ⟨Or.inl rfl, trivial⟩⟩⟩⟩⟩⟩⟩⟩⟩⟩⟩⟩⟩⟩⟩ ?_
          rw [hx, hy]
          refine z_oeq ((if_neg (fun q => q ⟨by assumption, by omega⟩)).trans rfl) ?_
          exact rs_X8_paste (a := a) (b := b) (f := f) (t := t) (nf := nf) (by omega) (by omega) (by omega) (by omega) hlk hst hB
        · refine z_iconst (nI 1) (by decide) dX8_paste_92 ?_
          refine z_goto 97 (by decide) dX8_paste_93 ?_
          refine z_istore (by decide) rfl dX8_paste_97 ?_
          refine z_iload rfl dX8_paste_99 ?_
          refine z_if_eq 128 (by decide) dX8_paste_101 (fun h => absurd h (by decide)) (fun _ => ?_)
          refine z_aload_n rfl rfl dX8_paste_104 ?_
          refine m_getR (131) kf_X8_50 (zl_a rfl rfl) rfl rfl (by decide) dX8_paste_105 ?_
          refine z_iload_n rfl rfl dX8_paste_108 ?_
          refine z_iload_n rfl rfl dX8_paste_109 ?_
          refine z_callS (as := [.int (nI a), .int (nI f)]) (ct_X8_spot (a) (f)) ko_X8_spot kl_X8_122 rfl rfl ⟨by decide, by decide, by decide, by decide⟩ (Nat.le_of_ble_eq_true rfl) rfl dX8_paste_110 ?_
          refine m_iald (24 * a + f) (zl_a rfl rfl) rfl (by omega) (by decide) dX8_paste_113 ?_
          refine z_aload_n rfl rfl dX8_paste_114 ?_
          refine m_getR (131) kf_X8_50 (zl_a rfl rfl) rfl rfl (by decide) dX8_paste_115 ?_
          refine z_iload_n rfl rfl dX8_paste_118 ?_
          refine z_iload_n rfl rfl dX8_paste_119 ?_
          refine z_callS (as := [.int (nI b), .int (nI f)]) (ct_X8_spot (b) (f)) ko_X8_spot kl_X8_122 rfl rfl ⟨by decide, by decide, by decide, by decide⟩ (Nat.le_of_ble_eq_true rfl) rfl dX8_paste_120 ?_
          refine m_iald (24 * b + f) (zl_a rfl rfl) rfl (by omega) (by decide) dX8_paste_123 ?_
          refine z_isub dX8_paste_124 ?_
          refine z_goto 129 (by decide) dX8_paste_125 ?_
          refine z_istore (by decide) rfl dX8_paste_129 ?_
          refine z_iload rfl dX8_paste_131 ?_
          refine z_if_eq 160 (by decide) dX8_paste_133 (fun h => absurd h (by decide)) (fun _ => ?_)
          refine z_aload_n rfl rfl dX8_paste_136 ?_
          refine m_getR (132) kf_X8_53 (zl_a rfl rfl) rfl rfl (by decide) dX8_paste_137 ?_
          refine z_iload_n rfl rfl dX8_paste_140 ?_
          refine z_iload_n rfl rfl dX8_paste_141 ?_
          refine z_callS (as := [.int (nI a), .int (nI f)]) (ct_X8_spot (a) (f)) ko_X8_spot kl_X8_122 rfl rfl ⟨by decide, by decide, by decide, by decide⟩ (Nat.le_of_ble_eq_true rfl) rfl dX8_paste_142 ?_
          refine m_iald (24 * a + f) (zl_a rfl rfl) rfl (by omega) (by decide) dX8_paste_145 ?_
          refine z_aload_n rfl rfl dX8_paste_146 ?_
          refine m_getR (132) kf_X8_53 (zl_a rfl rfl) rfl rfl (by decide) dX8_paste_147 ?_
          refine z_iload_n rfl rfl dX8_paste_150 ?_
          refine z_iload_n rfl rfl dX8_paste_151 ?_
          refine z_callS (as := [.int (nI b), .int (nI f)]) (ct_X8_spot (b) (f)) ko_X8_spot kl_X8_122 rfl rfl ⟨by decide, by decide, by decide, by decide⟩ (Nat.le_of_ble_eq_true rfl) rfl dX8_paste_152 ?_
          refine m_iald (24 * b + f) (zl_a rfl rfl) rfl (by omega) (by decide) dX8_paste_155 ?_
          refine z_isub dX8_paste_156 ?_
          refine z_goto 161 (by decide) dX8_paste_157 ?_
          refine z_istore (by decide) rfl dX8_paste_161 ?_
          have hx : dmv μ a b f 131 = (μ (131) (24 * a + f)) - (μ (131) (24 * b + f)) := if_pos ⟨h6, h8⟩
          have hy : dmv μ a b f 132 = (μ (132) (24 * a + f)) - (μ (132) (24 * b + f)) := if_pos ⟨h6, h8⟩
          refine z_fgt [.ref (117), .int (nI a), .int (nI b), .int (nI f), .int (nI t), .int (nI 1), .int (nI 1), .null, .int ((μ (131) (24 * a + f)) - (μ (131) (24 * b + f))), .int ((μ (132) (24 * a + f)) - (μ (132) (24 * b + f))), .null, .null, .null, .null, .null] ⟨Or.inl rfl, ⟨Or.inl rfl, ⟨Or.inl rfl, ⟨Or.inl rfl, ⟨Or.inl rfl, ⟨Or.inl rfl, ⟨Or.inl rfl, ⟨Or.inr rfl, ⟨Or.inl rfl, ⟨Or.inl rfl, ⟨Or.inl rfl, ⟨Or.inl rfl, ⟨Or.inl rfl, ⟨Or.inl rfl, ⟨Or.inl rfl, trivial⟩⟩⟩⟩⟩⟩⟩⟩⟩⟩⟩⟩⟩⟩⟩ ?_
          rw [hx, hy]
          refine z_oeq ((if_neg (fun q => q ⟨by assumption, by omega⟩)).trans rfl) ?_
          exact rs_X8_paste (a := a) (b := b) (f := f) (t := t) (nf := nf) (by omega) (by omega) (by omega) (by omega) hlk hst hB
