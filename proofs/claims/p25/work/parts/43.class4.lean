/-! the class: loops (printed by wip/whole/gen_d.py) -/
set_option maxRecDepth 100000 in
set_option maxHeartbeats 4000000 in
theorem lp_X0_fitsMoved {E : Nat × (Nat → Int32)} {g : zLw} {μ : zMu} {c f t : Nat} (hc : c < 12) (hf : f ≤ t) (ht : t < 24) {x y : Int32} : ∀ (n : Nat) (m : Nat), (t + 1 - f) - m = n → m ≤ (t + 1 - f) → (∀ i, i < m → cmvP μ c x y (f + i)) → zV false E kX0_fitsMoved 116 (.inl (some (.int (zB (∀ i, i < (t + 1 - f) → cmvP μ c x y (f + i))))), zm μ g) 3 [.ref (33 + 7 * c), .int (nI f), .int (nI t), .int (x), .int (y), .int (nI (f + m))] [] (zm μ g) 0 0 := by
  intro n
  induction n using Nat.strongRecOn with
  | ind n ih =>
    intro m hm hle hs
    refine z_iload rfl dX0_fitsMoved_3 ?_
    refine z_iload_n rfl rfl dX0_fitsMoved_5 ?_
    refine z_icmp_gt 51 (by decide) dX0_fitsMoved_6 (z_br (zcn (n := t) (by omega) (f + m) (by omega)).2.1 (fun h1 => ?_)) (z_brn (zcn (n := t) (by omega) (f + m) (by omega)).2.1 (fun h2 => ?_))
    · refine z_iconst (nI 1) (by decide) dX0_fitsMoved_51 ?_
      exact z_iret (zleafBT (fun i hi => hs i (by omega))) rfl rfl (by decide) (by decide) dX0_fitsMoved_52
    · refine z_aload_n rfl rfl dX0_fitsMoved_9 ?_
      refine z_iload rfl dX0_fitsMoved_10 ?_
      refine z_callV (as := [.int (nI (f + m))]) (ct_X0_knows (c := c) (p := f + m) (by omega) (by omega)) ko_X0_knows kl_X0_40 rfl (zc0 (by omega)) rfl rfl ⟨by decide, by decide, by decide, by decide⟩ (Nat.le_of_ble_eq_true rfl) rfl dX0_fitsMoved_12 ?_
      refine z_if_eq 45 (by decide) dX0_fitsMoved_15 (z_br zb_0 (fun h3 => ?_)) (z_br zb_n (fun h4 => ?_))
      · refine z_iinc (nI (f + m + 1)) rfl (zinc _) (by decide) rfl dX0_fitsMoved_45 ?_
        refine z_goto 3 (by decide) dX0_fitsMoved_48 ?_
        exact ih ((t + 1 - f) - (m + 1)) (by omega) (m + 1) rfl (by omega) (fun i hi => by
          rcases Nat.lt_succ_iff_lt_or_eq.mp hi with q | q
          · exact hs i q
          · subst q; exact fun q => absurd q h3)
      · refine z_aload_n rfl rfl dX0_fitsMoved_18 ?_
        refine m_getR (34 + 7 * c) kf_X0_15 (zc0 (by omega)) rfl (zl_rc (by omega)).1 (by omega) dX0_fitsMoved_19 ?_
        refine z_iload rfl dX0_fitsMoved_22 ?_
        refine m_iald (f + m) (zc1 (by omega)) rfl (by omega) (by decide) dX0_fitsMoved_24 ?_
        refine z_iload_n rfl rfl dX0_fitsMoved_25 ?_
        refine z_iadd dX0_fitsMoved_26 ?_
        refine z_aload_n rfl rfl dX0_fitsMoved_27 ?_
        refine m_getR (35 + 7 * c) kf_X0_19 (zc0 (by omega)) rfl (zl_rc (by omega)).2.1 (by omega) dX0_fitsMoved_28 ?_
        refine z_iload rfl dX0_fitsMoved_31 ?_
        refine m_iald (f + m) (zc2 (by omega)) rfl (by omega) (by decide) dX0_fitsMoved_33 ?_
        refine z_iload rfl dX0_fitsMoved_34 ?_
        refine z_iadd dX0_fitsMoved_36 ?_
        refine z_callS (as := [.int ((μ (34 + 7 * c) (f + m)) + x), .int ((μ (35 + 7 * c) (f + m)) + y)]) (ct_X0_isPlace ((μ (34 + 7 * c) (f + m)) + x) ((μ (35 + 7 * c) (f + m)) + y)) ko_X0_isPlace kl_X0_48 rfl rfl ⟨by decide, by decide, by decide, by decide⟩ (Nat.le_of_ble_eq_true rfl) rfl dX0_fitsMoved_37 ?_
        refine z_if_ne 45 (by decide) dX0_fitsMoved_40 (z_br zb_n (fun h5 => ?_)) (z_br zb_0 (fun h6 => ?_))
        · refine z_iinc (nI (f + m + 1)) rfl (zinc _) (by decide) rfl dX0_fitsMoved_45 ?_
          refine z_goto 3 (by decide) dX0_fitsMoved_48 ?_
          exact ih ((t + 1 - f) - (m + 1)) (by omega) (m + 1) rfl (by omega) (fun i hi => by
            rcases Nat.lt_succ_iff_lt_or_eq.mp hi with q | q
            · exact hs i q
            · subst q; exact fun _ => h5)
        · refine z_iconst (nI 0) (by decide) dX0_fitsMoved_43 ?_
          exact z_iret (zleafBF (fun q => by have q2 := q m (by omega); exact h6 (q2 h4))) rfl rfl (by decide) (by decide) dX0_fitsMoved_44
set_option maxRecDepth 100000 in
set_option maxHeartbeats 4000000 in
theorem ct_X0_fitsMoved {E : Nat × (Nat → Int32)} {μ : Nat → Nat → Int32} {g : zLw} {c f t : Nat} (hc : c < 12) (hf : f ≤ t) (ht : t < 24) {x y : Int32} : zCt E kX0_fitsMoved [.ref (33 + 7 * c), .int (nI f), .int (nI t), .int (x), .int (y)] (zm μ g) (.inl (some (.int (zB (∀ i, i < (t + 1 - f) → cmvP μ c x y (f + i))))), zm μ g) := by
  refine zCt_of ko_X0_fitsMoved (Nat.le_of_ble_eq_true rfl) (zas_r (zas_i (zas_i (zas_i (zas_i zas_0))))) ⟨Nat.le_refl _, fun h => absurd h (Nat.lt_irrefl _)⟩ (Nat.le_of_ble_eq_true rfl) ?_
  show zV false E kX0_fitsMoved 116 _ 0 [.ref (33 + 7 * c), .int (nI f), .int (nI t), .int (x), .int (y), .null] [] (zm μ g) 0 0
  refine z_iload_n rfl rfl dX0_fitsMoved_0 ?_
  refine z_istore (by decide) rfl dX0_fitsMoved_1 ?_
  exact lp_X0_fitsMoved hc hf ht _ 0 rfl (Nat.zero_le _) (fun i hi => absurd hi (Nat.not_lt_zero i))
set_option maxRecDepth 100000 in
set_option maxHeartbeats 4000000 in
theorem lp_X0_fitsShrunk {E : Nat × (Nat → Int32)} {g : zLw} {μ : zMu} {c b : Nat} (hc : c < 12) (hb : b < 3) {h : Int32} : ∀ (n : Nat) (m : Nat), 8 - m = n → m ≤ 8 → (∀ i, i < m → cshP μ c h ((b * 8) + i)) → zV false E kX0_fitsShrunk 116 (.inl (some (.int (zB (∀ i, i < 8 → cshP μ c h ((b * 8) + i))))), zm μ g) 5 [.ref (33 + 7 * c), .int (nI b), .int (h), .int (nI ((b * 8) + m))] [] (zm μ g) 0 0 := by
  intro n
  induction n using Nat.strongRecOn with
  | ind n ih =>
    intro m hm hle hs
    refine z_iload_n rfl rfl dX0_fitsShrunk_5 ?_
    refine z_iload_n rfl rfl dX0_fitsShrunk_6 ?_
    refine z_callSN (as := [.int (nI b)]) (ct_X7_lastOf b) ko_X7_lastOf kl_X0_56 rfl rfl ⟨by decide, by decide, by decide, by decide⟩ (Nat.le_of_ble_eq_true rfl) rfl dX0_fitsShrunk_7 ?_
    refine z_icmp_gt 55 (by decide) dX0_fitsShrunk_10 (z_br (zcn (n := b * 8 + 8 - 1) (by omega) ((b * 8) + m) (by omega)).2.1 (fun h1 => ?_)) (z_brn (zcn (n := b * 8 + 8 - 1) (by omega) ((b * 8) + m) (by omega)).2.1 (fun h2 => ?_))
    · refine z_iconst (nI 1) (by decide) dX0_fitsShrunk_55 ?_
      exact z_iret (zleafBT (fun i hi => hs i (by omega))) rfl rfl (by decide) (by decide) dX0_fitsShrunk_56
    · refine z_aload_n rfl rfl dX0_fitsShrunk_13 ?_
      refine z_iload_n rfl rfl dX0_fitsShrunk_14 ?_
      refine z_callV (as := [.int (nI ((b * 8) + m))]) (ct_X0_knows (c := c) (p := (b * 8) + m) (by omega) (by omega)) ko_X0_knows kl_X0_40 rfl (zc0 (by omega)) rfl rfl ⟨by decide, by decide, by decide, by decide⟩ (Nat.le_of_ble_eq_true rfl) rfl dX0_fitsShrunk_15 ?_
      refine z_if_eq 49 (by decide) dX0_fitsShrunk_18 (z_br zb_0 (fun h3 => ?_)) (z_br zb_n (fun h4 => ?_))
      · refine z_iinc (nI ((b * 8) + m + 1)) rfl (zinc _) (by decide) rfl dX0_fitsShrunk_49 ?_
        refine z_goto 5 (by decide) dX0_fitsShrunk_52 ?_
        exact ih (8 - (m + 1)) (by omega) (m + 1) rfl (by omega) (fun i hi => by
          rcases Nat.lt_succ_iff_lt_or_eq.mp hi with q | q
          · exact hs i q
          · subst q; exact fun q => absurd q h3)
      · refine z_aload_n rfl rfl dX0_fitsShrunk_21 ?_
        refine m_getR (34 + 7 * c) kf_X0_15 (zc0 (by omega)) rfl (zl_rc (by omega)).1 (by omega) dX0_fitsShrunk_22 ?_
        refine z_iload_n rfl rfl dX0_fitsShrunk_25 ?_
        refine m_iald ((b * 8) + m) (zc1 (by omega)) rfl (by omega) (by decide) dX0_fitsShrunk_26 ?_
        refine z_iload_n rfl rfl dX0_fitsShrunk_27 ?_
        refine z_callS (as := [.int (μ (34 + 7 * c) ((b * 8) + m)), .int (h)]) (ct_X0_shrunk (μ (34 + 7 * c) ((b * 8) + m)) (h)) ko_X0_shrunk kl_X0_59 rfl rfl ⟨by decide, by decide, by decide, by decide⟩ (Nat.le_of_ble_eq_true rfl) rfl dX0_fitsShrunk_28 ?_
        refine z_aload_n rfl rfl dX0_fitsShrunk_31 ?_
        refine m_getR (35 + 7 * c) kf_X0_19 (zc0 (by omega)) rfl (zl_rc (by omega)).2.1 (by omega) dX0_fitsShrunk_32 ?_
        refine z_iload_n rfl rfl dX0_fitsShrunk_35 ?_
        refine m_iald ((b * 8) + m) (zc2 (by omega)) rfl (by omega) (by decide) dX0_fitsShrunk_36 ?_
        refine z_iload_n rfl rfl dX0_fitsShrunk_37 ?_
        refine z_callS (as := [.int (μ (35 + 7 * c) ((b * 8) + m)), .int (h)]) (ct_X0_shrunk (μ (35 + 7 * c) ((b * 8) + m)) (h)) ko_X0_shrunk kl_X0_59 rfl rfl ⟨by decide, by decide, by decide, by decide⟩ (Nat.le_of_ble_eq_true rfl) rfl dX0_fitsShrunk_38 ?_
        refine z_callS (as := [.int ((μ (34 + 7 * c) ((b * 8) + m)) * h / nI 100), .int ((μ (35 + 7 * c) ((b * 8) + m)) * h / nI 100)]) (ct_X0_isPlace ((μ (34 + 7 * c) ((b * 8) + m)) * h / nI 100) ((μ (35 + 7 * c) ((b * 8) + m)) * h / nI 100)) ko_X0_isPlace kl_X0_48 rfl rfl ⟨by decide, by decide, by decide, by decide⟩ (Nat.le_of_ble_eq_true rfl) rfl dX0_fitsShrunk_41 ?_
        refine z_if_ne 49 (by decide) dX0_fitsShrunk_44 (z_br zb_n (fun h5 => ?_)) (z_br zb_0 (fun h6 => ?_))
        · refine z_iinc (nI ((b * 8) + m + 1)) rfl (zinc _) (by decide) rfl dX0_fitsShrunk_49 ?_
          refine z_goto 5 (by decide) dX0_fitsShrunk_52 ?_
          exact ih (8 - (m + 1)) (by omega) (m + 1) rfl (by omega) (fun i hi => by
            rcases Nat.lt_succ_iff_lt_or_eq.mp hi with q | q
            · exact hs i q
            · subst q; exact fun _ => h5)
        · refine z_iconst (nI 0) (by decide) dX0_fitsShrunk_47 ?_
          exact z_iret (zleafBF (fun q => by have q2 := q m (by omega); exact h6 (q2 h4))) rfl rfl (by decide) (by decide) dX0_fitsShrunk_48
set_option maxRecDepth 100000 in
set_option maxHeartbeats 4000000 in
theorem ct_X0_fitsShrunk {E : Nat × (Nat → Int32)} {μ : Nat → Nat → Int32} {g : zLw} {c b : Nat} (hc : c < 12) (hb : b < 3) {h : Int32} : zCt E kX0_fitsShrunk [.ref (33 + 7 * c), .int (nI b), .int (h)] (zm μ g) (.inl (some (.int (zB (∀ i, i < 8 → cshP μ c h ((b * 8) + i))))), zm μ g) := by
  refine zCt_of ko_X0_fitsShrunk (Nat.le_of_ble_eq_true rfl) (zas_r (zas_i (zas_i zas_0))) ⟨Nat.le_refl _, fun h => absurd h (Nat.lt_irrefl _)⟩ (Nat.le_of_ble_eq_true rfl) ?_
  show zV false E kX0_fitsShrunk 116 _ 0 [.ref (33 + 7 * c), .int (nI b), .int (h), .null] [] (zm μ g) 0 0
  refine z_iload_n rfl rfl dX0_fitsShrunk_0 ?_
  refine z_callSN (as := [.int (nI b)]) (ct_X7_firstOf b) ko_X7_firstOf kl_X0_52 rfl rfl ⟨by decide, by decide, by decide, by decide⟩ (Nat.le_of_ble_eq_true rfl) rfl dX0_fitsShrunk_1 ?_
  refine z_istore_n rfl (by decide) rfl dX0_fitsShrunk_4 ?_
  exact lp_X0_fitsShrunk hc hb _ 0 rfl (Nat.zero_le _) (fun i hi => absurd hi (Nat.not_lt_zero i))
set_option maxRecDepth 100000 in
set_option maxHeartbeats 4000000 in
theorem lp_X0_shrinkPlaces {E : Nat × (Nat → Int32)} {g : zLw} {μ : zMu} {c b : Nat} (hc : c < 12) (hb : b < 3) {h : Int32} : ∀ (n : Nat) (m : Nat) (ν : zMu), 8 - m = n → m ≤ 8 → ν = zit (cshr c h) (b * 8) m (μ) → zV false E kX0_shrinkPlaces 116 (.inl none, zm (zit (cshr c h) (b * 8) 8 μ) g) 5 [.ref (33 + 7 * c), .int (nI b), .int (h), .int (nI ((b * 8) + m))] [] (zm ν g) 0 0 := by
  intro n
  induction n using Nat.strongRecOn with
  | ind n ih =>
    intro m ν hm hle hs 
    refine z_iload_n rfl rfl dX0_shrinkPlaces_5 ?_
    refine z_iload_n rfl rfl dX0_shrinkPlaces_6 ?_
    refine z_callSN (as := [.int (nI b)]) (ct_X7_lastOf b) ko_X7_lastOf kl_X0_56 rfl rfl ⟨by decide, by decide, by decide, by decide⟩ (Nat.le_of_ble_eq_true rfl) rfl dX0_shrinkPlaces_7 ?_
    refine z_icmp_gt 59 (by decide) dX0_shrinkPlaces_10 (z_br (zcn (n := b * 8 + 8 - 1) (by omega) ((b * 8) + m) (by omega)).2.1 (fun h1 => ?_)) (z_brn (zcn (n := b * 8 + 8 - 1) (by omega) ((b * 8) + m) (by omega)).2.1 (fun h2 => ?_))
    · have hmL : m = 8 := by omega
      have hz : zit (cshr c h) (b * 8) 8 (μ) = ν := by rw [hs, hmL]
      exact z_vret (by rw [hz]) rfl (by decide) (by decide) dX0_shrinkPlaces_59
    · refine z_aload_n rfl rfl dX0_shrinkPlaces_13 ?_
      refine z_iload_n rfl rfl dX0_shrinkPlaces_14 ?_
      refine z_callV (as := [.int (nI ((b * 8) + m))]) (ct_X0_knows (c := c) (p := (b * 8) + m) (by omega) (by omega)) ko_X0_knows kl_X0_40 rfl (zc0 (by omega)) rfl rfl ⟨by decide, by decide, by decide, by decide⟩ (Nat.le_of_ble_eq_true rfl) rfl dX0_shrinkPlaces_15 ?_
      refine z_if_eq 53 (by decide) dX0_shrinkPlaces_18 (z_br zb_0 (fun h3 => ?_)) (z_br zb_n (fun h4 => ?_))
      · refine z_iinc (nI ((b * 8) + m + 1)) rfl (zinc _) (by decide) rfl dX0_shrinkPlaces_53 ?_
        refine z_goto 5 (by decide) dX0_shrinkPlaces_56 ?_
        exact ih (8 - (m + 1)) (by omega) (m + 1) (ν) rfl (by omega) (zst hs (by rw [cshr, if_neg h3]))
      · refine z_aload_n rfl rfl dX0_shrinkPlaces_21 ?_
        refine m_getR (34 + 7 * c) kf_X0_15 (zc0 (by omega)) rfl (zl_rc (by omega)).1 (by omega) dX0_shrinkPlaces_22 ?_
        refine z_iload_n rfl rfl dX0_shrinkPlaces_25 ?_
        refine z_aload_n rfl rfl dX0_shrinkPlaces_26 ?_
        refine m_getR (34 + 7 * c) kf_X0_15 (zc0 (by omega)) rfl (zl_rc (by omega)).1 (by omega) dX0_shrinkPlaces_27 ?_
        refine z_iload_n rfl rfl dX0_shrinkPlaces_30 ?_
        refine m_iald ((b * 8) + m) (zc1 (by omega)) rfl (by omega) (by decide) dX0_shrinkPlaces_31 ?_
        refine z_iload_n rfl rfl dX0_shrinkPlaces_32 ?_
        refine z_callS (as := [.int (ν (34 + 7 * c) ((b * 8) + m)), .int (h)]) (ct_X0_shrunk (ν (34 + 7 * c) ((b * 8) + m)) (h)) ko_X0_shrunk kl_X0_59 rfl rfl ⟨by decide, by decide, by decide, by decide⟩ (Nat.le_of_ble_eq_true rfl) rfl dX0_shrinkPlaces_33 ?_
        refine m_iast ((b * 8) + m) (zc1 (by omega)) rfl (by omega) (by decide) dX0_shrinkPlaces_36 ?_
        refine z_aload_n rfl rfl dX0_shrinkPlaces_37 ?_
        refine m_getR (35 + 7 * c) kf_X0_19 (zc0 (by omega)) rfl (zl_rc (by omega)).2.1 (by omega) dX0_shrinkPlaces_38 ?_
        refine z_iload_n rfl rfl dX0_shrinkPlaces_41 ?_
        refine z_aload_n rfl rfl dX0_shrinkPlaces_42 ?_
        refine m_getR (35 + 7 * c) kf_X0_19 (zc0 (by omega)) rfl (zl_rc (by omega)).2.1 (by omega) dX0_shrinkPlaces_43 ?_
        refine z_iload_n rfl rfl dX0_shrinkPlaces_46 ?_
        refine m_iald ((b * 8) + m) (zc2 (by omega)) rfl (by omega) (by decide) dX0_shrinkPlaces_47 ?_
        refine z_iload_n rfl rfl dX0_shrinkPlaces_48 ?_
        refine z_callS (as := [.int ((zu ν (34 + 7 * c) ((b * 8) + m) ((ν (34 + 7 * c) ((b * 8) + m)) * h / nI 100)) (35 + 7 * c) ((b * 8) + m)), .int (h)]) (ct_X0_shrunk ((zu ν (34 + 7 * c) ((b * 8) + m) ((ν (34 + 7 * c) ((b * 8) + m)) * h / nI 100)) (35 + 7 * c) ((b * 8) + m)) (h)) ko_X0_shrunk kl_X0_59 rfl rfl ⟨by decide, by decide, by decide, by decide⟩ (Nat.le_of_ble_eq_true rfl) rfl dX0_shrinkPlaces_49 ?_
        refine m_iast ((b * 8) + m) (zc2 (by omega)) rfl (by omega) (by decide) dX0_shrinkPlaces_52 ?_
        refine z_iinc (nI ((b * 8) + m + 1)) rfl (zinc _) (by decide) rfl dX0_shrinkPlaces_53 ?_
        refine z_goto 5 (by decide) dX0_shrinkPlaces_56 ?_
        exact ih (8 - (m + 1)) (by omega) (m + 1) (zu (zu ν (34 + 7 * c) ((b * 8) + m) ((ν (34 + 7 * c) ((b * 8) + m)) * h / nI 100)) (35 + 7 * c) ((b * 8) + m) (((zu ν (34 + 7 * c) ((b * 8) + m) ((ν (34 + 7 * c) ((b * 8) + m)) * h / nI 100)) (35 + 7 * c) ((b * 8) + m)) * h / nI 100)) rfl (by omega) (zst hs (by rw [cshr, if_pos h4]))
set_option maxRecDepth 100000 in
set_option maxHeartbeats 4000000 in
theorem ct_X0_shrinkPlaces {E : Nat × (Nat → Int32)} {μ : Nat → Nat → Int32} {g : zLw} {c b : Nat} (hc : c < 12) (hb : b < 3) {h : Int32} : zCt E kX0_shrinkPlaces [.ref (33 + 7 * c), .int (nI b), .int (h)] (zm μ g) (.inl none, zm (zit (cshr c h) (b * 8) 8 μ) g) := by
  refine zCt_of ko_X0_shrinkPlaces (Nat.le_of_ble_eq_true rfl) (zas_r (zas_i (zas_i zas_0))) ⟨Nat.le_refl _, fun h => absurd h (Nat.lt_irrefl _)⟩ (Nat.le_of_ble_eq_true rfl) ?_
  show zV false E kX0_shrinkPlaces 116 _ 0 [.ref (33 + 7 * c), .int (nI b), .int (h), .null] [] (zm μ g) 0 0
  refine z_iload_n rfl rfl dX0_shrinkPlaces_0 ?_
  refine z_callSN (as := [.int (nI b)]) (ct_X7_firstOf b) ko_X7_firstOf kl_X0_52 rfl rfl ⟨by decide, by decide, by decide, by decide⟩ (Nat.le_of_ble_eq_true rfl) rfl dX0_shrinkPlaces_1 ?_
  refine z_istore_n rfl (by decide) rfl dX0_shrinkPlaces_4 ?_
  exact lp_X0_shrinkPlaces hc hb _ 0 μ rfl (Nat.zero_le _) rfl
set_option maxRecDepth 100000 in
set_option maxHeartbeats 4000000 in
theorem lp_X7_shiftX {E : Nat × (Nat → Int32)} {g : zLw} {μ : zMu} {c b : Nat} (hc : c < 12) (hb : b < 3) : ∀ (n : Nat) (m : Nat) (s : Int32) (t : Int32), 8 - m = n → m ≤ 8 → (s, t) = zit (cshf μ c 34 3) (b * 8) m (nI 0, nI 0) → zV false E kX7_shift 116 (.inl (some (.int (cshift μ c b 34 3))), zm μ g) 12 [.ref (1), .ref (33 + 7 * c), .int (nI b), .int (nI 1), .int (s), .int (t), .int (nI ((b * 8) + m))] [] (zm μ g) 0 0 := by
  intro n
  induction n using Nat.strongRecOn with
  | ind n ih =>
    intro m s t hm hle hs 
    refine z_iload rfl dX7_shift_12 ?_
    refine z_iload_n rfl rfl dX7_shift_14 ?_
    refine z_callS (as := [.int (nI b)]) (ct_X7_lastOf b) ko_X7_lastOf kl_X7_287 rfl rfl ⟨by decide, by decide, by decide, by decide⟩ (Nat.le_of_ble_eq_true rfl) rfl dX7_shift_15 ?_
    refine z_icmp_gt 52 (by decide) dX7_shift_18 (z_br (zcn (n := b * 8 + 8 - 1) (by omega) ((b * 8) + m) (by omega)).2.1 (fun h1 => ?_)) (z_brn (zcn (n := b * 8 + 8 - 1) (by omega) ((b * 8) + m) (by omega)).2.1 (fun h2 => ?_))
    · have hmL : m = 8 := by omega
      have hz : zit (cshf μ c 34 3) (b * 8) 8 (nI 0, nI 0) = (s, t) := by rw [hs, hmL]
      refine z_iload rfl dX7_shift_52 ?_
      refine z_if_le 65 (by decide) dX7_shift_54 (fun h3 => ?_) (fun h4 => ?_)
      · refine z_iconst (nI 0) (by decide) dX7_shift_65 ?_
        exact z_iret (by rw [cshift, hz, zquo, if_pos h3]) rfl (znarI _) (by decide) (by decide) dX7_shift_66
      · refine z_iload rfl dX7_shift_57 ?_
        refine z_iload rfl dX7_shift_59 ?_
        refine z_idiv (fun q => h4 (by rw [q]; decide)) dX7_shift_61 ?_
        refine z_goto 66 (by decide) dX7_shift_62 ?_
        exact z_iret (by rw [cshift, hz, zquo, if_neg h4]) rfl (znarI _) (by decide) (by decide) dX7_shift_66
    · refine z_aload_n rfl rfl dX7_shift_21 ?_
      refine z_iload rfl dX7_shift_22 ?_
      refine z_callV (as := [.int (nI ((b * 8) + m))]) (ct_X0_knows (c := c) (p := (b * 8) + m) (by omega) (by omega)) ko_X0_knows kl_X7_179 rfl (zc0 (by omega)) rfl rfl ⟨by decide, by decide, by decide, by decide⟩ (Nat.le_of_ble_eq_true rfl) rfl dX7_shift_24 ?_
      refine z_if_eq 46 (by decide) dX7_shift_27 (z_br zb_0 (fun h5 => ?_)) (z_br zb_n (fun h6 => ?_))
      · refine z_iinc (nI ((b * 8) + m + 1)) rfl (zinc _) (by decide) rfl dX7_shift_46 ?_
        refine z_goto 12 (by decide) dX7_shift_49 ?_
        exact ih (8 - (m + 1)) (by omega) (m + 1) (s) (t) rfl (by omega) (zst hs (by rw [cshf, if_neg h5]))
      · refine z_iload rfl dX7_shift_30 ?_
        refine z_aload_n rfl rfl dX7_shift_32 ?_
        refine z_aload_n rfl rfl dX7_shift_33 ?_
        refine z_iload rfl dX7_shift_34 ?_
        refine z_iload_n rfl rfl dX7_shift_36 ?_
        refine z_callV (as := [.ref (33 + 7 * c), .int (nI ((b * 8) + m)), .int (nI 1)]) (ct_X7_errorOfX (c := c) (p := (b * 8) + m) (by omega) (by omega)) ko_X7_errorOf kl_X7_247 rfl (zl_a rfl rfl) rfl rfl ⟨by decide, by decide, by decide, by decide⟩ (Nat.le_of_ble_eq_true rfl) rfl dX7_shift_37 ?_
        refine z_iadd dX7_shift_40 ?_
        refine z_istore (by decide) rfl dX7_shift_41 ?_
        refine z_iinc (s + 1) rfl rfl (by decide) rfl dX7_shift_43 ?_
        refine z_iinc (nI ((b * 8) + m + 1)) rfl (zinc _) (by decide) rfl dX7_shift_46 ?_
        refine z_goto 12 (by decide) dX7_shift_49 ?_
        exact ih (8 - (m + 1)) (by omega) (m + 1) (s + 1) (t + (μ (34 + 7 * c) ((b * 8) + m) - μ 3 ((b * 8) + m))) rfl (by omega) (zst hs (by rw [cshf, if_pos h6]))
set_option maxRecDepth 100000 in
set_option maxHeartbeats 4000000 in
theorem ct_X7_shiftX {E : Nat × (Nat → Int32)} {μ : Nat → Nat → Int32} {g : zLw} {c b : Nat} (hc : c < 12) (hb : b < 3) : zCt E kX7_shift [.ref (1), .ref (33 + 7 * c), .int (nI b), .int (nI 1)] (zm μ g) (.inl (some (.int (cshift μ c b 34 3))), zm μ g) := by
  refine zCt_of ko_X7_shift (Nat.le_of_ble_eq_true rfl) (zas_r (zas_r (zas_i (zas_i zas_0)))) ⟨Nat.le_refl _, fun h => absurd h (Nat.lt_irrefl _)⟩ (Nat.le_of_ble_eq_true rfl) ?_
  show zV false E kX7_shift 116 _ 0 [.ref (1), .ref (33 + 7 * c), .int (nI b), .int (nI 1), .null, .null, .null] [] (zm μ g) 0 0
  refine z_iconst (nI 0) (by decide) dX7_shift_0 ?_
  refine z_istore (by decide) rfl dX7_shift_1 ?_
  refine z_iconst (nI 0) (by decide) dX7_shift_3 ?_
  refine z_istore (by decide) rfl dX7_shift_4 ?_
  refine z_iload_n rfl rfl dX7_shift_6 ?_
  refine z_callS (as := [.int (nI b)]) (ct_X7_firstOf b) ko_X7_firstOf kl_X7_284 rfl rfl ⟨by decide, by decide, by decide, by decide⟩ (Nat.le_of_ble_eq_true rfl) rfl dX7_shift_7 ?_
  refine z_istore (by decide) rfl dX7_shift_10 ?_
  exact lp_X7_shiftX hc hb _ 0 (nI 0) (nI 0) rfl (Nat.zero_le _) rfl
set_option maxRecDepth 100000 in
set_option maxHeartbeats 4000000 in
theorem lp_X7_shiftY {E : Nat × (Nat → Int32)} {g : zLw} {μ : zMu} {c b : Nat} (hc : c < 12) (hb : b < 3) : ∀ (n : Nat) (m : Nat) (s : Int32) (t : Int32), 8 - m = n → m ≤ 8 → (s, t) = zit (cshf μ c 35 4) (b * 8) m (nI 0, nI 0) → zV false E kX7_shift 116 (.inl (some (.int (cshift μ c b 35 4))), zm μ g) 12 [.ref (1), .ref (33 + 7 * c), .int (nI b), .int (nI 0), .int (s), .int (t), .int (nI ((b * 8) + m))] [] (zm μ g) 0 0 := by
  intro n
  induction n using Nat.strongRecOn with
  | ind n ih =>
    intro m s t hm hle hs 
    refine z_iload rfl dX7_shift_12 ?_
    refine z_iload_n rfl rfl dX7_shift_14 ?_
    refine z_callS (as := [.int (nI b)]) (ct_X7_lastOf b) ko_X7_lastOf kl_X7_287 rfl rfl ⟨by decide, by decide, by decide, by decide⟩ (Nat.le_of_ble_eq_true rfl) rfl dX7_shift_15 ?_
    refine z_icmp_gt 52 (by decide) dX7_shift_18 (z_br (zcn (n := b * 8 + 8 - 1) (by omega) ((b * 8) + m) (by omega)).2.1 (fun h1 => ?_)) (z_brn (zcn (n := b * 8 + 8 - 1) (by omega) ((b * 8) + m) (by omega)).2.1 (fun h2 => ?_))
    · have hmL : m = 8 := by omega
      have hz : zit (cshf μ c 35 4) (b * 8) 8 (nI 0, nI 0) = (s, t) := by rw [hs, hmL]
      refine z_iload rfl dX7_shift_52 ?_
      refine z_if_le 65 (by decide) dX7_shift_54 (fun h3 => ?_) (fun h4 => ?_)
      · refine z_iconst (nI 0) (by decide) dX7_shift_65 ?_
        exact z_iret (by rw [cshift, hz, zquo, if_pos h3]) rfl (znarI _) (by decide) (by decide) dX7_shift_66
      · refine z_iload rfl dX7_shift_57 ?_
        refine z_iload rfl dX7_shift_59 ?_
        refine z_idiv (fun q => h4 (by rw [q]; decide)) dX7_shift_61 ?_
        refine z_goto 66 (by decide) dX7_shift_62 ?_
        exact z_iret (by rw [cshift, hz, zquo, if_neg h4]) rfl (znarI _) (by decide) (by decide) dX7_shift_66
    · refine z_aload_n rfl rfl dX7_shift_21 ?_
      refine z_iload rfl dX7_shift_22 ?_
      refine z_callV (as := [.int (nI ((b * 8) + m))]) (ct_X0_knows (c := c) (p := (b * 8) + m) (by omega) (by omega)) ko_X0_knows kl_X7_179 rfl (zc0 (by omega)) rfl rfl ⟨by decide, by decide, by decide, by decide⟩ (Nat.le_of_ble_eq_true rfl) rfl dX7_shift_24 ?_
      refine z_if_eq 46 (by decide) dX7_shift_27 (z_br zb_0 (fun h5 => ?_)) (z_br zb_n (fun h6 => ?_))
      · refine z_iinc (nI ((b * 8) + m + 1)) rfl (zinc _) (by decide) rfl dX7_shift_46 ?_
        refine z_goto 12 (by decide) dX7_shift_49 ?_
        exact ih (8 - (m + 1)) (by omega) (m + 1) (s) (t) rfl (by omega) (zst hs (by rw [cshf, if_neg h5]))
      · refine z_iload rfl dX7_shift_30 ?_
        refine z_aload_n rfl rfl dX7_shift_32 ?_
        refine z_aload_n rfl rfl dX7_shift_33 ?_
        refine z_iload rfl dX7_shift_34 ?_
        refine z_iload_n rfl rfl dX7_shift_36 ?_
        refine z_callV (as := [.ref (33 + 7 * c), .int (nI ((b * 8) + m)), .int (nI 0)]) (ct_X7_errorOfY (c := c) (p := (b * 8) + m) (by omega) (by omega)) ko_X7_errorOf kl_X7_247 rfl (zl_a rfl rfl) rfl rfl ⟨by decide, by decide, by decide, by decide⟩ (Nat.le_of_ble_eq_true rfl) rfl dX7_shift_37 ?_
        refine z_iadd dX7_shift_40 ?_
        refine z_istore (by decide) rfl dX7_shift_41 ?_
        refine z_iinc (s + 1) rfl rfl (by decide) rfl dX7_shift_43 ?_
        refine z_iinc (nI ((b * 8) + m + 1)) rfl (zinc _) (by decide) rfl dX7_shift_46 ?_
        refine z_goto 12 (by decide) dX7_shift_49 ?_
        exact ih (8 - (m + 1)) (by omega) (m + 1) (s + 1) (t + (μ (35 + 7 * c) ((b * 8) + m) - μ 4 ((b * 8) + m))) rfl (by omega) (zst hs (by rw [cshf, if_pos h6]))
set_option maxRecDepth 100000 in
set_option maxHeartbeats 4000000 in
theorem ct_X7_shiftY {E : Nat × (Nat → Int32)} {μ : Nat → Nat → Int32} {g : zLw} {c b : Nat} (hc : c < 12) (hb : b < 3) : zCt E kX7_shift [.ref (1), .ref (33 + 7 * c), .int (nI b), .int (nI 0)] (zm μ g) (.inl (some (.int (cshift μ c b 35 4))), zm μ g) := by
  refine zCt_of ko_X7_shift (Nat.le_of_ble_eq_true rfl) (zas_r (zas_r (zas_i (zas_i zas_0)))) ⟨Nat.le_refl _, fun h => absurd h (Nat.lt_irrefl _)⟩ (Nat.le_of_ble_eq_true rfl) ?_
  show zV false E kX7_shift 116 _ 0 [.ref (1), .ref (33 + 7 * c), .int (nI b), .int (nI 0), .null, .null, .null] [] (zm μ g) 0 0
  refine z_iconst (nI 0) (by decide) dX7_shift_0 ?_
  refine z_istore (by decide) rfl dX7_shift_1 ?_
  refine z_iconst (nI 0) (by decide) dX7_shift_3 ?_
  refine z_istore (by decide) rfl dX7_shift_4 ?_
  refine z_iload_n rfl rfl dX7_shift_6 ?_
  refine z_callS (as := [.int (nI b)]) (ct_X7_firstOf b) ko_X7_firstOf kl_X7_284 rfl rfl ⟨by decide, by decide, by decide, by decide⟩ (Nat.le_of_ble_eq_true rfl) rfl dX7_shift_7 ?_
  refine z_istore (by decide) rfl dX7_shift_10 ?_
  exact lp_X7_shiftY hc hb _ 0 (nI 0) (nI 0) rfl (Nat.zero_le _) rfl
set_option maxRecDepth 100000 in
set_option maxHeartbeats 4000000 in
theorem lp_X7_residual {E : Nat × (Nat → Int32)} {g : zLw} {μ : zMu} {c b : Nat} (hc : c < 12) (hb : b < 3) {x y : Int32} : ∀ (n : Nat) (m : Nat) (s : Int32), 8 - m = n → m ≤ 8 → s = zit (cres μ c x y) (b * 8) m (nI 0) → zV false E kX7_residual 116 (.inl (some (.int (zit (cres μ c x y) (b * 8) 8 (nI 0)))), zm μ g) 26 [.ref (1), .ref (33 + 7 * c), .int (nI b), .int (x), .int (y), .int (s), .int (nI ((b * 8) + m))] [] (zm μ g) 0 0 := by
  intro n
  induction n using Nat.strongRecOn with
  | ind n ih =>
    intro m s hm hle hs 
    refine z_iload rfl dX7_residual_26 ?_
    refine z_iload_n rfl rfl dX7_residual_28 ?_
    refine z_callS (as := [.int (nI b)]) (ct_X7_lastOf b) ko_X7_lastOf kl_X7_287 rfl rfl ⟨by decide, by decide, by decide, by decide⟩ (Nat.le_of_ble_eq_true rfl) rfl dX7_residual_29 ?_
    refine z_icmp_gt 87 (by decide) dX7_residual_32 (z_br (zcn (n := b * 8 + 8 - 1) (by omega) ((b * 8) + m) (by omega)).2.1 (fun h1 => ?_)) (z_brn (zcn (n := b * 8 + 8 - 1) (by omega) ((b * 8) + m) (by omega)).2.1 (fun h2 => ?_))
    · have hmL : m = 8 := by omega
      have hz : zit (cres μ c x y) (b * 8) 8 (nI 0) = s := by rw [hs, hmL]
      refine z_iload rfl dX7_residual_87 ?_
      exact z_iret (by rw [hz]) rfl (znarI _) (by decide) (by decide) dX7_residual_89
    · refine z_aload_n rfl rfl dX7_residual_35 ?_
      refine z_iload rfl dX7_residual_36 ?_
      refine z_callV (as := [.int (nI ((b * 8) + m))]) (ct_X0_knows (c := c) (p := (b * 8) + m) (by omega) (by omega)) ko_X0_knows kl_X7_179 rfl (zc0 (by omega)) rfl rfl ⟨by decide, by decide, by decide, by decide⟩ (Nat.le_of_ble_eq_true rfl) rfl dX7_residual_38 ?_
      refine z_if_eq 81 (by decide) dX7_residual_41 (z_br zb_0 (fun h3 => ?_)) (z_br zb_n (fun h4 => ?_))
      · refine z_iinc (nI ((b * 8) + m + 1)) rfl (zinc _) (by decide) rfl dX7_residual_81 ?_
        refine z_goto 26 (by decide) dX7_residual_84 ?_
        exact ih (8 - (m + 1)) (by omega) (m + 1) (s) rfl (by omega) (zst hs (by rw [cres, if_neg h3]))
      · refine z_iload rfl dX7_residual_44 ?_
        refine z_aload_n rfl rfl dX7_residual_46 ?_
        refine z_aload_n rfl rfl dX7_residual_47 ?_
        refine z_iload rfl dX7_residual_48 ?_
        refine z_iconst (nI 1) (by decide) dX7_residual_50 ?_
        refine z_callV (as := [.ref (33 + 7 * c), .int (nI ((b * 8) + m)), .int (nI 1)]) (ct_X7_errorOfX (c := c) (p := (b * 8) + m) (by omega) (by omega)) ko_X7_errorOf kl_X7_247 rfl (zl_a rfl rfl) rfl rfl ⟨by decide, by decide, by decide, by decide⟩ (Nat.le_of_ble_eq_true rfl) rfl dX7_residual_51 ?_
        refine z_iload_n rfl rfl dX7_residual_54 ?_
        refine z_isub dX7_residual_55 ?_
        refine z_abs kl_X7_325 km_abs_s km_i km_abs_c (by decide) (Nat.le_of_ble_eq_true rfl) (by decide) (by decide) dX7_residual_56 ?_
        refine z_iadd dX7_residual_59 ?_
        refine z_istore (by decide) rfl dX7_residual_60 ?_
        refine z_iload rfl dX7_residual_62 ?_
        refine z_aload_n rfl rfl dX7_residual_64 ?_
        refine z_aload_n rfl rfl dX7_residual_65 ?_
        refine z_iload rfl dX7_residual_66 ?_
        refine z_iconst (nI 0) (by decide) dX7_residual_68 ?_
        refine z_callV (as := [.ref (33 + 7 * c), .int (nI ((b * 8) + m)), .int (nI 0)]) (ct_X7_errorOfY (c := c) (p := (b * 8) + m) (by omega) (by omega)) ko_X7_errorOf kl_X7_247 rfl (zl_a rfl rfl) rfl rfl ⟨by decide, by decide, by decide, by decide⟩ (Nat.le_of_ble_eq_true rfl) rfl dX7_residual_69 ?_
        refine z_iload rfl dX7_residual_72 ?_
        refine z_isub dX7_residual_74 ?_
        refine z_abs kl_X7_325 km_abs_s km_i km_abs_c (by decide) (Nat.le_of_ble_eq_true rfl) (by decide) (by decide) dX7_residual_75 ?_
        refine z_iadd dX7_residual_78 ?_
        refine z_istore (by decide) rfl dX7_residual_79 ?_
        refine z_iinc (nI ((b * 8) + m + 1)) rfl (zinc _) (by decide) rfl dX7_residual_81 ?_
        refine z_goto 26 (by decide) dX7_residual_84 ?_
        exact ih (8 - (m + 1)) (by omega) (m + 1) ((s + (if 0 ≤ (μ (34 + 7 * c) ((b * 8) + m) - μ 3 ((b * 8) + m)) - x then (μ (34 + 7 * c) ((b * 8) + m) - μ 3 ((b * 8) + m)) - x else 0 - ((μ (34 + 7 * c) ((b * 8) + m) - μ 3 ((b * 8) + m)) - x))) + (if 0 ≤ (μ (35 + 7 * c) ((b * 8) + m) - μ 4 ((b * 8) + m)) - y then (μ (35 + 7 * c) ((b * 8) + m) - μ 4 ((b * 8) + m)) - y else 0 - ((μ (35 + 7 * c) ((b * 8) + m) - μ 4 ((b * 8) + m)) - y))) rfl (by omega) (zst hs (by rw [cres, if_pos h4]))
set_option maxRecDepth 100000 in
set_option maxHeartbeats 4000000 in
theorem ct_X7_residual {E : Nat × (Nat → Int32)} {μ : Nat → Nat → Int32} {g : zLw} {c b : Nat} (hc : c < 12) (hb : b < 3) : zCt E kX7_residual [.ref (1), .ref (33 + 7 * c), .int (nI b)] (zm μ g) (.inl (some (.int (zit (cres μ c (cshift μ c b 34 3) (cshift μ c b 35 4)) (b * 8) 8 (nI 0)))), zm μ g) := by
  refine zCt_of ko_X7_residual (Nat.le_of_ble_eq_true rfl) (zas_r (zas_r (zas_i zas_0))) ⟨Nat.le_refl _, fun h => absurd h (Nat.lt_irrefl _)⟩ (Nat.le_of_ble_eq_true rfl) ?_
  show zV false E kX7_residual 116 _ 0 [.ref (1), .ref (33 + 7 * c), .int (nI b), .null, .null, .null, .null] [] (zm μ g) 0 0
  refine z_aload_n rfl rfl dX7_residual_0 ?_
  refine z_aload_n rfl rfl dX7_residual_1 ?_
  refine z_iload_n rfl rfl dX7_residual_2 ?_
  refine z_iconst (nI 1) (by decide) dX7_residual_3 ?_
  refine z_callV (as := [.ref (33 + 7 * c), .int (nI b), .int (nI 1)]) (ct_X7_shiftX (c := c) (b := b) (by omega) (by omega)) ko_X7_shift kl_X7_273 rfl (zl_a rfl rfl) rfl rfl ⟨by decide, by decide, by decide, by decide⟩ (Nat.le_of_ble_eq_true rfl) rfl dX7_residual_4 ?_
  refine z_istore_n rfl (by decide) rfl dX7_residual_7 ?_
  refine z_aload_n rfl rfl dX7_residual_8 ?_
  refine z_aload_n rfl rfl dX7_residual_9 ?_
  refine z_iload_n rfl rfl dX7_residual_10 ?_
  refine z_iconst (nI 0) (by decide) dX7_residual_11 ?_
  refine z_callV (as := [.ref (33 + 7 * c), .int (nI b), .int (nI 0)]) (ct_X7_shiftY (c := c) (b := b) (by omega) (by omega)) ko_X7_shift kl_X7_273 rfl (zl_a rfl rfl) rfl rfl ⟨by decide, by decide, by decide, by decide⟩ (Nat.le_of_ble_eq_true rfl) rfl dX7_residual_12 ?_
  refine z_istore (by decide) rfl dX7_residual_15 ?_
  refine z_iconst (nI 0) (by decide) dX7_residual_17 ?_
  refine z_istore (by decide) rfl dX7_residual_18 ?_
  refine z_iload_n rfl rfl dX7_residual_20 ?_
  refine z_callS (as := [.int (nI b)]) (ct_X7_firstOf b) ko_X7_firstOf kl_X7_284 rfl rfl ⟨by decide, by decide, by decide, by decide⟩ (Nat.le_of_ble_eq_true rfl) rfl dX7_residual_21 ?_
  refine z_istore (by decide) rfl dX7_residual_24 ?_
  exact lp_X7_residual hc hb _ 0 (nI 0) rfl (Nat.zero_le _) rfl
set_option maxRecDepth 100000 in
set_option maxHeartbeats 4000000 in
theorem lp_X7_sharedBy {E : Nat × (Nat → Int32)} {g : zLw} {μ : zMu} {c d b : Nat} (hc : c < 12) (hd : d < 12) (hb : b < 3) : ∀ (n : Nat) (m : Nat) (s : Int32), 8 - m = n → m ≤ 8 → s = zit (csha μ c d) (b * 8) m (zit (cisl μ c d) 0 20 (nI 0)) → zV false E kX7_sharedBy 116 (.inl (some (.int (cshared μ c d b))), zm μ g) 13 [.ref (1), .ref (33 + 7 * c), .ref (33 + 7 * d), .int (nI b), .int (s), .int (nI ((b * 8) + m))] [] (zm μ g) 0 0 := by
  intro n
  induction n using Nat.strongRecOn with
  | ind n ih =>
    intro m s hm hle hs 
    refine z_iload rfl dX7_sharedBy_13 ?_
    refine z_iload_n rfl rfl dX7_sharedBy_15 ?_
    refine z_callS (as := [.int (nI b)]) (ct_X7_lastOf b) ko_X7_lastOf kl_X7_287 rfl rfl ⟨by decide, by decide, by decide, by decide⟩ (Nat.le_of_ble_eq_true rfl) rfl dX7_sharedBy_16 ?_
    refine z_icmp_gt 72 (by decide) dX7_sharedBy_19 (z_br (zcn (n := b * 8 + 8 - 1) (by omega) ((b * 8) + m) (by omega)).2.1 (fun h1 => ?_)) (z_brn (zcn (n := b * 8 + 8 - 1) (by omega) ((b * 8) + m) (by omega)).2.1 (fun h2 => ?_))
    · have hmL : m = 8 := by omega
      have hz : zit (csha μ c d) (b * 8) 8 (zit (cisl μ c d) 0 20 (nI 0)) = s := by rw [hs, hmL]
      refine z_iload rfl dX7_sharedBy_72 ?_
      exact z_iret (by rw [cshared, hz]) rfl (znarI _) (by decide) (by decide) dX7_sharedBy_74
    · refine z_aload_n rfl rfl dX7_sharedBy_22 ?_
      refine z_aload_n rfl rfl dX7_sharedBy_23 ?_
      refine z_aload_n rfl rfl dX7_sharedBy_24 ?_
      refine z_iload rfl dX7_sharedBy_25 ?_
      refine z_callV (as := [.ref (33 + 7 * c), .ref (33 + 7 * d), .int (nI ((b * 8) + m))]) (ct_X7_shareError (c := c) (d := d) (p := (b * 8) + m) (by omega) (by omega) (by omega)) ko_X7_shareError kl_X7_331 rfl (zl_a rfl rfl) rfl rfl ⟨by decide, by decide, by decide, by decide⟩ (Nat.le_of_ble_eq_true rfl) rfl dX7_sharedBy_27 ?_
      refine z_if_eq 36 (by decide) dX7_sharedBy_30 (z_br zb_0 (fun h3 => ?_)) (z_br zb_n (fun h4 => ?_))
      · refine z_aload_n rfl rfl dX7_sharedBy_36 ?_
        refine m_getR (36 + 7 * c) kf_X7_143 (zc0 (by omega)) rfl (zl_rc (by omega)).2.2.1 (by omega) dX7_sharedBy_37 ?_
        refine z_iload rfl dX7_sharedBy_40 ?_
        refine m_iald ((b * 8) + m) (zc3 (by omega)) rfl (by omega) (by decide) dX7_sharedBy_42 ?_
        refine z_aload_n rfl rfl dX7_sharedBy_43 ?_
        refine m_getR (36 + 7 * d) kf_X7_143 (zc0 (by omega)) rfl (zl_rc (by omega)).2.2.1 (by omega) dX7_sharedBy_44 ?_
        refine z_iload rfl dX7_sharedBy_47 ?_
        refine m_iald ((b * 8) + m) (zc3 (by omega)) rfl (by omega) (by decide) dX7_sharedBy_49 ?_
        refine z_icmp_ne 66 (by decide) dX7_sharedBy_50 (fun h5 => ?_) (fun h6 => ?_)
        · refine z_iinc (nI ((b * 8) + m + 1)) rfl (zinc _) (by decide) rfl dX7_sharedBy_66 ?_
          refine z_goto 13 (by decide) dX7_sharedBy_69 ?_
          exact ih (8 - (m + 1)) (by omega) (m + 1) (s) rfl (by omega) (zst hs (by rw [csha, if_neg (fun q => h5 q.1), if_neg h3]))
        · refine z_aload_n rfl rfl dX7_sharedBy_53 ?_
          refine z_aload_n rfl rfl dX7_sharedBy_54 ?_
          refine z_iload rfl dX7_sharedBy_55 ?_
          refine z_callV (as := [.ref (33 + 7 * c), .int (nI ((b * 8) + m))]) (ct_X7_hasTrueName (c := c) (p := (b * 8) + m) (by omega) (by omega)) ko_X7_hasTrueName kl_X7_290 rfl (zl_a rfl rfl) rfl rfl ⟨by decide, by decide, by decide, by decide⟩ (Nat.le_of_ble_eq_true rfl) rfl dX7_sharedBy_57 ?_
          refine z_if_ne 66 (by decide) dX7_sharedBy_60 (z_br zb_n (fun h7 => ?_)) (z_br zb_0 (fun h8 => ?_))
          · refine z_iinc (nI ((b * 8) + m + 1)) rfl (zinc _) (by decide) rfl dX7_sharedBy_66 ?_
            refine z_goto 13 (by decide) dX7_sharedBy_69 ?_
            exact ih (8 - (m + 1)) (by omega) (m + 1) (s) rfl (by omega) (zst hs (by rw [csha, if_neg (fun q => q.2 h7), if_neg h3]))
          · refine z_iinc (s + 1) rfl rfl (by decide) rfl dX7_sharedBy_63 ?_
            refine z_iinc (nI ((b * 8) + m + 1)) rfl (zinc _) (by decide) rfl dX7_sharedBy_66 ?_
            refine z_goto 13 (by decide) dX7_sharedBy_69 ?_
            exact ih (8 - (m + 1)) (by omega) (m + 1) (s + 1) rfl (by omega) (zst hs (by rw [csha, if_pos ⟨h6, h8⟩, if_neg h3]))
      · refine z_iinc (s + 1) rfl rfl (by decide) rfl dX7_sharedBy_33 ?_
        refine z_aload_n rfl rfl dX7_sharedBy_36 ?_
        refine m_getR (36 + 7 * c) kf_X7_143 (zc0 (by omega)) rfl (zl_rc (by omega)).2.2.1 (by omega) dX7_sharedBy_37 ?_
        refine z_iload rfl dX7_sharedBy_40 ?_
        refine m_iald ((b * 8) + m) (zc3 (by omega)) rfl (by omega) (by decide) dX7_sharedBy_42 ?_
        refine z_aload_n rfl rfl dX7_sharedBy_43 ?_
        refine m_getR (36 + 7 * d) kf_X7_143 (zc0 (by omega)) rfl (zl_rc (by omega)).2.2.1 (by omega) dX7_sharedBy_44 ?_
        refine z_iload rfl dX7_sharedBy_47 ?_
        refine m_iald ((b * 8) + m) (zc3 (by omega)) rfl (by omega) (by decide) dX7_sharedBy_49 ?_
        refine z_icmp_ne 66 (by decide) dX7_sharedBy_50 (fun h9 => ?_) (fun h10 => ?_)
        · refine z_iinc (nI ((b * 8) + m + 1)) rfl (zinc _) (by decide) rfl dX7_sharedBy_66 ?_
          refine z_goto 13 (by decide) dX7_sharedBy_69 ?_
          exact ih (8 - (m + 1)) (by omega) (m + 1) (s + 1) rfl (by omega) (zst hs (by rw [csha, if_neg (fun q => h9 q.1), if_pos h4]))
        · refine z_aload_n rfl rfl dX7_sharedBy_53 ?_
          refine z_aload_n rfl rfl dX7_sharedBy_54 ?_
          refine z_iload rfl dX7_sharedBy_55 ?_
          refine z_callV (as := [.ref (33 + 7 * c), .int (nI ((b * 8) + m))]) (ct_X7_hasTrueName (c := c) (p := (b * 8) + m) (by omega) (by omega)) ko_X7_hasTrueName kl_X7_290 rfl (zl_a rfl rfl) rfl rfl ⟨by decide, by decide, by decide, by decide⟩ (Nat.le_of_ble_eq_true rfl) rfl dX7_sharedBy_57 ?_
          refine z_if_ne 66 (by decide) dX7_sharedBy_60 (z_br zb_n (fun h11 => ?_)) (z_br zb_0 (fun h12 => ?_))
          · refine z_iinc (nI ((b * 8) + m + 1)) rfl (zinc _) (by decide) rfl dX7_sharedBy_66 ?_
            refine z_goto 13 (by decide) dX7_sharedBy_69 ?_
            exact ih (8 - (m + 1)) (by omega) (m + 1) (s + 1) rfl (by omega) (zst hs (by rw [csha, if_neg (fun q => q.2 h11), if_pos h4]))
          · refine z_iinc ((s + 1) + 1) rfl rfl (by decide) rfl dX7_sharedBy_63 ?_
            refine z_iinc (nI ((b * 8) + m + 1)) rfl (zinc _) (by decide) rfl dX7_sharedBy_66 ?_
            refine z_goto 13 (by decide) dX7_sharedBy_69 ?_
            exact ih (8 - (m + 1)) (by omega) (m + 1) ((s + 1) + 1) rfl (by omega) (zst hs (by rw [csha, if_pos ⟨h10, h12⟩, if_pos h4]))
set_option maxRecDepth 100000 in
set_option maxHeartbeats 4000000 in
theorem ct_X7_sharedBy {E : Nat × (Nat → Int32)} {μ : Nat → Nat → Int32} {g : zLw} {c d b : Nat} (hc : c < 12) (hd : d < 12) (hb : b < 3) : zCt E kX7_sharedBy [.ref (1), .ref (33 + 7 * c), .ref (33 + 7 * d), .int (nI b)] (zm μ g) (.inl (some (.int (cshared μ c d b))), zm μ g) := by
  refine zCt_of ko_X7_sharedBy (Nat.le_of_ble_eq_true rfl) (zas_r (zas_r (zas_r (zas_i zas_0)))) ⟨Nat.le_refl _, fun h => absurd h (Nat.lt_irrefl _)⟩ (Nat.le_of_ble_eq_true rfl) ?_
  show zV false E kX7_sharedBy 116 _ 0 [.ref (1), .ref (33 + 7 * c), .ref (33 + 7 * d), .int (nI b), .null, .null] [] (zm μ g) 0 0
  refine z_aload_n rfl rfl dX7_sharedBy_0 ?_
  refine z_aload_n rfl rfl dX7_sharedBy_1 ?_
  refine z_callV (as := [.ref (33 + 7 * d)]) (ct_X0_islandsWith (c := c) (d := d) (by omega) (by omega)) ko_X0_islandsWith kl_X7_328 rfl (zc0 (by omega)) rfl rfl ⟨by decide, by decide, by decide, by decide⟩ (Nat.le_of_ble_eq_true rfl) rfl dX7_sharedBy_2 ?_
  refine z_istore (by decide) rfl dX7_sharedBy_5 ?_
  refine z_iload_n rfl rfl dX7_sharedBy_7 ?_
  refine z_callS (as := [.int (nI b)]) (ct_X7_firstOf b) ko_X7_firstOf kl_X7_284 rfl rfl ⟨by decide, by decide, by decide, by decide⟩ (Nat.le_of_ble_eq_true rfl) rfl dX7_sharedBy_8 ?_
  refine z_istore (by decide) rfl dX7_sharedBy_11 ?_
  exact lp_X7_sharedBy hc hd hb _ 0 _ rfl (Nat.zero_le _) rfl
set_option maxRecDepth 100000 in
set_option maxHeartbeats 4000000 in
theorem lp2_X0_takeFrame {E : Nat × (Nat → Int32)} {g : zLw} {μ : zMu} {c d : Nat} (hc : c < 12) (hd : d < 12) (hcd : c ≠ d) : ∀ (n : Nat) (m : Nat) (ν : zMu), 20 - m = n → m ≤ 20 → ν = zit (cfr2 c d) 0 m (μ) → (∀ i, i < 20 → ν (39 + 7 * d) i = 0 ∨ ν (39 + 7 * d) i = 1) → zV false E kX0_takeFrame 116 (.inl none, zm (zit (cfr2 c d) 0 20 μ) g) 27 [.ref (33 + 7 * c), .ref (33 + 7 * d), .int (nI m)] [] (zm ν g) 0 0 := by
  intro n
  induction n using Nat.strongRecOn with
  | ind n ih =>
    intro m ν hm hle hs hB
    refine z_iload_n rfl rfl dX0_takeFrame_27 ?_
    refine z_bipush (nI 20) (by decide) dX0_takeFrame_28 ?_
    refine z_icmp_ge 51 (by decide) dX0_takeFrame_30 (z_br (zcn (n := 20) (by omega) (m) (by omega)).2.2 (fun h1 => ?_)) (z_brn (zcn (n := 20) (by omega) (m) (by omega)).2.2 (fun h2 => ?_))
    · have hmL : m = 20 := by omega
      have hz : zit (cfr2 c d) 0 20 (μ) = ν := by rw [hs, hmL]
      exact z_vret (by rw [hz]) rfl (by decide) (by decide) dX0_takeFrame_51
    · refine z_aload_n rfl rfl dX0_takeFrame_33 ?_
      refine m_getR (39 + 7 * c) kf_X0_31 (zc0 (by omega)) rfl (zl_rc (by omega)).2.2.2.2.2 (by omega) dX0_takeFrame_34 ?_
      refine z_iload_n rfl rfl dX0_takeFrame_37 ?_
      refine z_aload_n rfl rfl dX0_takeFrame_38 ?_
      refine m_getR (39 + 7 * d) kf_X0_31 (zc0 (by omega)) rfl (zl_rc (by omega)).2.2.2.2.2 (by omega) dX0_takeFrame_39 ?_
      refine z_iload_n rfl rfl dX0_takeFrame_42 ?_
      refine m_zald (m) (zc6 (by omega)) rfl (by omega) (by decide) dX0_takeFrame_43 ?_
      refine m_zast (m) (zc6 (by omega)) rfl (by omega) (by decide) (hB m (by omega)) dX0_takeFrame_44 ?_
      refine z_iinc (nI (m + 1)) rfl (zinc _) (by decide) rfl dX0_takeFrame_45 ?_
      refine z_goto 27 (by decide) dX0_takeFrame_48 ?_
      exact ih (20 - (m + 1)) (by omega) (m + 1) (zu ν (39 + 7 * c) (m) (ν (39 + 7 * d) (m))) rfl (by omega) (zst0 hs (rfl)) (fun i hi => by rw [zu_o (by omega)]; exact hB i hi)
set_option maxRecDepth 100000 in
set_option maxHeartbeats 4000000 in
theorem lp1_X0_takeFrame {E : Nat × (Nat → Int32)} {g : zLw} {μ : zMu} {c d : Nat} (hc : c < 12) (hd : d < 12) (hcd : c ≠ d) : ∀ (n : Nat) (m : Nat) (ν : zMu), 3 - m = n → m ≤ 3 → ν = zit (cfr1 c d) 0 m (μ) → (∀ i, i < 20 → ν (39 + 7 * d) i = 0 ∨ ν (39 + 7 * d) i = 1) → zV false E kX0_takeFrame 116 (.inl none, zm (zit (cfr2 c d) 0 20 (zit (cfr1 c d) 0 3 μ)) g) 2 [.ref (33 + 7 * c), .ref (33 + 7 * d), .int (nI m)] [] (zm ν g) 0 0 := by
  intro n
  induction n using Nat.strongRecOn with
  | ind n ih =>
    intro m ν hm hle hs hB
    refine z_iload_n rfl rfl dX0_takeFrame_2 ?_
    refine z_iconst (nI 3) (by decide) dX0_takeFrame_3 ?_
    refine z_icmp_ge 25 (by decide) dX0_takeFrame_4 (z_br (zcn (n := 3) (by omega) (m) (by omega)).2.2 (fun h1 => ?_)) (z_brn (zcn (n := 3) (by omega) (m) (by omega)).2.2 (fun h2 => ?_))
    · have hmL : m = 3 := by omega
      have hz : zit (cfr1 c d) 0 3 (μ) = ν := by rw [hs, hmL]
      refine z_iconst (nI 0) (by decide) dX0_takeFrame_25 ?_
      refine z_istore_n rfl (by decide) rfl dX0_takeFrame_26 ?_
      rw [hz]
      exact lp2_X0_takeFrame hc hd hcd _ 0 ν rfl (Nat.zero_le _) rfl hB
    · refine z_aload_n rfl rfl dX0_takeFrame_7 ?_
      refine m_getR (38 + 7 * c) kf_X0_28 (zc0 (by omega)) rfl (zl_rc (by omega)).2.2.2.2.1 (by omega) dX0_takeFrame_8 ?_
      refine z_iload_n rfl rfl dX0_takeFrame_11 ?_
      refine z_aload_n rfl rfl dX0_takeFrame_12 ?_
      refine m_getR (38 + 7 * d) kf_X0_28 (zc0 (by omega)) rfl (zl_rc (by omega)).2.2.2.2.1 (by omega) dX0_takeFrame_13 ?_
      refine z_iload_n rfl rfl dX0_takeFrame_16 ?_
      refine m_iald (m) (zc5 (by omega)) rfl (by omega) (by decide) dX0_takeFrame_17 ?_
      refine m_iast (m) (zc5 (by omega)) rfl (by omega) (by decide) dX0_takeFrame_18 ?_
      refine z_iinc (nI (m + 1)) rfl (zinc _) (by decide) rfl dX0_takeFrame_19 ?_
      refine z_goto 2 (by decide) dX0_takeFrame_22 ?_
      exact ih (3 - (m + 1)) (by omega) (m + 1) (zu ν (38 + 7 * c) (m) (ν (38 + 7 * d) (m))) rfl (by omega) (zst0 hs (rfl)) (fun i hi => by rw [zu_o (by omega)]; exact hB i hi)
set_option maxRecDepth 100000 in
set_option maxHeartbeats 4000000 in
theorem ct_X0_takeFrame {E : Nat × (Nat → Int32)} {μ : Nat → Nat → Int32} {g : zLw} {c d : Nat} (hc : c < 12) (hd : d < 12) (hcd : c ≠ d) (hB : ∀ i, i < 20 → μ (39 + 7 * d) i = 0 ∨ μ (39 + 7 * d) i = 1) : zCt E kX0_takeFrame [.ref (33 + 7 * c), .ref (33 + 7 * d)] (zm μ g) (.inl none, zm (zit (cfr2 c d) 0 20 (zit (cfr1 c d) 0 3 μ)) g) := by
  refine zCt_of ko_X0_takeFrame (Nat.le_of_ble_eq_true rfl) (zas_r (zas_r zas_0)) ⟨Nat.le_refl _, fun h => absurd h (Nat.lt_irrefl _)⟩ (Nat.le_of_ble_eq_true rfl) ?_
  show zV false E kX0_takeFrame 116 _ 0 [.ref (33 + 7 * c), .ref (33 + 7 * d), .null] [] (zm μ g) 0 0
  refine z_iconst (nI 0) (by decide) dX0_takeFrame_0 ?_
  refine z_istore_n rfl (by decide) rfl dX0_takeFrame_1 ?_
  exact lp1_X0_takeFrame hc hd hcd _ 0 μ rfl (Nat.zero_le _) rfl hB
