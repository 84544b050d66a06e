/-! the class: more small methods (printed by wip/whole/gen_b.py) -/
set_option maxRecDepth 100000 in
set_option maxHeartbeats 4000000 in
theorem ct_X7_needIsland {E : Nat × (Nat → Int32)} {μ : Nat → Nat → Int32} {g : zLw} {ni : Nat} (hni : μ 21 3 = nI ni) (hi20 : ni ≤ 20) {j : Nat} (hj : j < ni) : zCt E kX7_needIsland [.ref (1), .int (nI j)] (zm μ g) (.inl none, zm μ g) := by
  refine zCt_of ko_X7_needIsland (Nat.le_of_ble_eq_true rfl) (zas_r (zas_i zas_0)) ⟨Nat.le_refl _, fun h => absurd h (Nat.lt_irrefl _)⟩ (Nat.le_of_ble_eq_true rfl) ?_
  show zV false E kX7_needIsland 116 _ 0 [.ref (1), .int (nI j)] [] (zm μ g) 0 0
  refine z_iload_n rfl rfl dX7_needIsland_0 ?_
  refine z_if_lt 15 (by decide) dX7_needIsland_1 (fun h => absurd h (nI_pos (n := j) (by omega))) (fun _ => ?_)
  refine z_iload_n rfl rfl dX7_needIsland_4 ?_
  refine z_aload_n rfl rfl dX7_needIsland_5 ?_
  refine m_getR (21) kf_X7_52 (zl_a rfl rfl) rfl rfl (by decide) dX7_needIsland_6 ?_
  refine m_getI kf_X7_213 (zl_a rfl rfl) rfl dX7_needIsland_9 ?_
  refine m_eqv (w := nI ni) (hni) ?_
  refine z_icmp_lt 26 (by decide) dX7_needIsland_12 (z_br (zcn (n := j) (by omega) (ni) (by omega)).2.1 (fun h3 => ?_)) (z_brn (zcn (n := j) (by omega) (ni) (by omega)).2.1 (fun h4 => ?_))
  · exact z_vret (rfl) rfl (by decide) (by decide) dX7_needIsland_26
  · omega
set_option maxRecDepth 100000 in
set_option maxHeartbeats 4000000 in
theorem ctx_X7_needIsland {E : Nat × (Nat → Int32)} {μ : Nat → Nat → Int32} {g : zLw} {ni : Nat} (hni : μ 21 3 = nI ni) (hi20 : ni ≤ 20) {p : Int32} (hp : ¬ zrg ni p) : zCt E kX7_needIsland [.ref (1), .int (p)] (zm μ g) (.inr xI, zm μ g) := by
  refine zCt_of ko_X7_needIsland (Nat.le_of_ble_eq_true rfl) (zas_r (zas_i zas_0)) ⟨Nat.le_refl _, fun h => absurd h (Nat.lt_irrefl _)⟩ (Nat.le_of_ble_eq_true rfl) ?_
  show zV false E kX7_needIsland 116 _ 0 [.ref (1), .int (p)] [] (zm μ g) 0 0
  refine z_iload_n rfl rfl dX7_needIsland_0 ?_
  refine z_if_lt 15 (by decide) dX7_needIsland_1 (fun h1 => ?_) (fun h2 => ?_)
  · exact z_throwW (text := "no such island") (rfl) kt_116 (by decide +kernel) rfl (by decide) (by decide) (by decide) (by decide) dX7_needIsland_15 dX7_needIsland_18 dX7_needIsland_19 dX7_needIsland_22 dX7_needIsland_25
  · refine z_iload_n rfl rfl dX7_needIsland_4 ?_
    refine z_aload_n rfl rfl dX7_needIsland_5 ?_
    refine m_getR (21) kf_X7_52 (zl_a rfl rfl) rfl rfl (by decide) dX7_needIsland_6 ?_
    refine m_getI kf_X7_213 (zl_a rfl rfl) rfl dX7_needIsland_9 ?_
    refine m_eqv (w := nI ni) (hni) ?_
    refine z_icmp_lt 26 (by decide) dX7_needIsland_12 (fun h3 => ?_) (fun h4 => ?_)
    · exact absurd ⟨h2, h3⟩ hp
    · exact z_throwW (text := "no such island") (rfl) kt_116 (by decide +kernel) rfl (by decide) (by decide) (by decide) (by decide) dX7_needIsland_15 dX7_needIsland_18 dX7_needIsland_19 dX7_needIsland_22 dX7_needIsland_25
set_option maxRecDepth 100000 in
set_option maxHeartbeats 4000000 in
theorem ct_X7_needRoomForChart {E : Nat × (Nat → Int32)} {μ : Nat → Nat → Int32} {g : zLw} {nc : Nat} (hnc : μ 1 7 = nI nc) (hn12 : nc ≤ 12) (hr : nc < 12) : zCt E kX7_needRoomForChart [.ref (1)] (zm μ g) (.inl none, zm μ g) := by
  refine zCt_of ko_X7_needRoomForChart (Nat.le_of_ble_eq_true rfl) (zas_r zas_0) ⟨Nat.le_refl _, fun h => absurd h (Nat.lt_irrefl _)⟩ (Nat.le_of_ble_eq_true rfl) ?_
  show zV false E kX7_needRoomForChart 116 _ 0 [.ref (1)] [] (zm μ g) 0 0
  refine z_aload_n rfl rfl dX7_needRoomForChart_0 ?_
  refine m_getI kf_X7_56 (zl_a rfl rfl) rfl dX7_needRoomForChart_1 ?_
  refine m_eqv (w := nI nc) (hnc) ?_
  refine z_bipush (nI 12) (by decide) dX7_needRoomForChart_4 ?_
  refine z_icmp_lt 20 (by decide) dX7_needRoomForChart_6 (z_br (zcn (n := nc) (by omega) (12) (by omega)).2.1 (fun h1 => ?_)) (z_brn (zcn (n := nc) (by omega) (12) (by omega)).2.1 (fun h2 => ?_))
  · exact z_vret (rfl) rfl (by decide) (by decide) dX7_needRoomForChart_20
  · omega
set_option maxRecDepth 100000 in
set_option maxHeartbeats 4000000 in
theorem ctx_X7_needRoomForChart {E : Nat × (Nat → Int32)} {μ : Nat → Nat → Int32} {g : zLw} {nc : Nat} (hnc : μ 1 7 = nI nc) (hn12 : nc ≤ 12) (hr : ¬ nc < 12) : zCt E kX7_needRoomForChart [.ref (1)] (zm μ g) (.inr xS, zm μ g) := by
  refine zCt_of ko_X7_needRoomForChart (Nat.le_of_ble_eq_true rfl) (zas_r zas_0) ⟨Nat.le_refl _, fun h => absurd h (Nat.lt_irrefl _)⟩ (Nat.le_of_ble_eq_true rfl) ?_
  show zV false E kX7_needRoomForChart 116 _ 0 [.ref (1)] [] (zm μ g) 0 0
  refine z_aload_n rfl rfl dX7_needRoomForChart_0 ?_
  refine m_getI kf_X7_56 (zl_a rfl rfl) rfl dX7_needRoomForChart_1 ?_
  refine m_eqv (w := nI nc) (hnc) ?_
  refine z_bipush (nI 12) (by decide) dX7_needRoomForChart_4 ?_
  refine z_icmp_lt 20 (by decide) dX7_needRoomForChart_6 (z_br (zcn (n := nc) (by omega) (12) (by omega)).2.1 (fun h1 => ?_)) (z_brn (zcn (n := nc) (by omega) (12) (by omega)).2.1 (fun h2 => ?_))
  · omega
  · exact z_throwW (text := "there are all the charts") (rfl) kt_87 (by decide +kernel) rfl (by decide) (by decide) (by decide) (by decide) dX7_needRoomForChart_9 dX7_needRoomForChart_12 dX7_needRoomForChart_13 dX7_needRoomForChart_16 dX7_needRoomForChart_19
set_option maxRecDepth 100000 in
set_option maxHeartbeats 4000000 in
theorem ct_X7_chartOf {E : Nat × (Nat → Int32)} {μ : Nat → Nat → Int32} {g : zLw} {nc : Nat} (hnc : μ 1 7 = nI nc) (hn12 : nc ≤ 12) {c : Nat} (hc : c < nc) : zCt E kX7_chartOf [.ref (1), .int (nI c)] (zm μ g) (.inl (some (.ref (33 + 7 * c))), zm μ g) := by
  refine zCt_of ko_X7_chartOf (Nat.le_of_ble_eq_true rfl) (zas_r (zas_i zas_0)) ⟨Nat.le_refl _, fun h => absurd h (Nat.lt_irrefl _)⟩ (Nat.le_of_ble_eq_true rfl) ?_
  show zV false E kX7_chartOf 116 _ 0 [.ref (1), .int (nI c)] [] (zm μ g) 0 0
  refine z_iload_n rfl rfl dX7_chartOf_0 ?_
  refine z_if_lt 12 (by decide) dX7_chartOf_1 (fun h => absurd h (nI_pos (n := c) (by omega))) (fun _ => ?_)
  refine z_iload_n rfl rfl dX7_chartOf_4 ?_
  refine z_aload_n rfl rfl dX7_chartOf_5 ?_
  refine m_getI kf_X7_56 (zl_a rfl rfl) rfl dX7_chartOf_6 ?_
  refine m_eqv (w := nI nc) (hnc) ?_
  refine z_icmp_lt 23 (by decide) dX7_chartOf_9 (z_br (zcn (n := c) (by omega) (nc) (by omega)).2.1 (fun h3 => ?_)) (z_brn (zcn (n := c) (by omega) (nc) (by omega)).2.1 (fun h4 => ?_))
  · refine z_aload_n rfl rfl dX7_chartOf_23 ?_
    refine m_getR (20) kf_X7_45 (zl_a rfl rfl) rfl rfl (by decide) dX7_chartOf_24 ?_
    refine z_iload_n rfl rfl dX7_chartOf_27 ?_
    refine m_aald (c) (33 + 7 * c) (by decide) (zl_a rfl rfl) rfl (by omega) (by decide) rfl (by omega) dX7_chartOf_28 ?_
    exact z_aret (rfl) rfl (by decide) (by decide) dX7_chartOf_29
  · omega
set_option maxRecDepth 100000 in
set_option maxHeartbeats 4000000 in
theorem ctx_X7_chartOf {E : Nat × (Nat → Int32)} {μ : Nat → Nat → Int32} {g : zLw} {nc : Nat} (hnc : μ 1 7 = nI nc) (hn12 : nc ≤ 12) {p : Int32} (hp : ¬ zrg nc p) : zCt E kX7_chartOf [.ref (1), .int (p)] (zm μ g) (.inr xI, zm μ g) := by
  refine zCt_of ko_X7_chartOf (Nat.le_of_ble_eq_true rfl) (zas_r (zas_i zas_0)) ⟨Nat.le_refl _, fun h => absurd h (Nat.lt_irrefl _)⟩ (Nat.le_of_ble_eq_true rfl) ?_
  show zV false E kX7_chartOf 116 _ 0 [.ref (1), .int (p)] [] (zm μ g) 0 0
  refine z_iload_n rfl rfl dX7_chartOf_0 ?_
  refine z_if_lt 12 (by decide) dX7_chartOf_1 (fun h1 => ?_) (fun h2 => ?_)
  · exact z_throwW (text := "no such chart") (rfl) kt_116 (by decide +kernel) rfl (by decide) (by decide) (by decide) (by decide) dX7_chartOf_12 dX7_chartOf_15 dX7_chartOf_16 dX7_chartOf_19 dX7_chartOf_22
  · refine z_iload_n rfl rfl dX7_chartOf_4 ?_
    refine z_aload_n rfl rfl dX7_chartOf_5 ?_
    refine m_getI kf_X7_56 (zl_a rfl rfl) rfl dX7_chartOf_6 ?_
    refine m_eqv (w := nI nc) (hnc) ?_
    refine z_icmp_lt 23 (by decide) dX7_chartOf_9 (fun h3 => ?_) (fun h4 => ?_)
    · exact absurd ⟨h2, h3⟩ hp
    · exact z_throwW (text := "no such chart") (rfl) kt_116 (by decide +kernel) rfl (by decide) (by decide) (by decide) (by decide) dX7_chartOf_12 dX7_chartOf_15 dX7_chartOf_16 dX7_chartOf_19 dX7_chartOf_22
set_option maxRecDepth 100000 in
set_option maxHeartbeats 4000000 in
theorem ct_X7_copyistOf {E : Nat × (Nat → Int32)} {μ : Nat → Nat → Int32} {g : zLw} {c : Nat} (hc : c < 4) : zCt E kX7_copyistOf [.ref (1), .int (nI c)] (zm μ g) (.inl (some (.ref (25 + 2 * c))), zm μ g) := by
  refine zCt_of ko_X7_copyistOf (Nat.le_of_ble_eq_true rfl) (zas_r (zas_i zas_0)) ⟨Nat.le_refl _, fun h => absurd h (Nat.lt_irrefl _)⟩ (Nat.le_of_ble_eq_true rfl) ?_
  show zV false E kX7_copyistOf 116 _ 0 [.ref (1), .int (nI c)] [] (zm μ g) 0 0
  refine z_iload_n rfl rfl dX7_copyistOf_0 ?_
  refine z_if_lt 9 (by decide) dX7_copyistOf_1 (fun h => absurd h (nI_pos (n := c) (by omega))) (fun _ => ?_)
  refine z_iload_n rfl rfl dX7_copyistOf_4 ?_
  refine z_iconst (nI 4) (by decide) dX7_copyistOf_5 ?_
  refine z_icmp_lt 20 (by decide) dX7_copyistOf_6 (z_br (zcn (n := c) (by omega) (4) (by omega)).2.1 (fun h3 => ?_)) (z_brn (zcn (n := c) (by omega) (4) (by omega)).2.1 (fun h4 => ?_))
  · refine z_aload_n rfl rfl dX7_copyistOf_20 ?_
    refine m_getR (19) kf_X7_39 (zl_a rfl rfl) rfl rfl (by decide) dX7_copyistOf_21 ?_
    refine z_iload_n rfl rfl dX7_copyistOf_24 ?_
    refine m_aald (c) (25 + 2 * c) (by decide) (zl_a rfl rfl) rfl (by omega) (by decide) rfl (by omega) dX7_copyistOf_25 ?_
    exact z_aret (rfl) rfl (by decide) (by decide) dX7_copyistOf_26
  · omega
set_option maxRecDepth 100000 in
set_option maxHeartbeats 4000000 in
theorem ctx_X7_copyistOf {E : Nat × (Nat → Int32)} {μ : Nat → Nat → Int32} {g : zLw} {p : Int32} (hp : ¬ zrg 4 p) : zCt E kX7_copyistOf [.ref (1), .int (p)] (zm μ g) (.inr xI, zm μ g) := by
  refine zCt_of ko_X7_copyistOf (Nat.le_of_ble_eq_true rfl) (zas_r (zas_i zas_0)) ⟨Nat.le_refl _, fun h => absurd h (Nat.lt_irrefl _)⟩ (Nat.le_of_ble_eq_true rfl) ?_
  show zV false E kX7_copyistOf 116 _ 0 [.ref (1), .int (p)] [] (zm μ g) 0 0
  refine z_iload_n rfl rfl dX7_copyistOf_0 ?_
  refine z_if_lt 9 (by decide) dX7_copyistOf_1 (fun h1 => ?_) (fun h2 => ?_)
  · exact z_throwW (text := "no such copyist") (rfl) kt_116 (by decide +kernel) rfl (by decide) (by decide) (by decide) (by decide) dX7_copyistOf_9 dX7_copyistOf_12 dX7_copyistOf_13 dX7_copyistOf_16 dX7_copyistOf_19
  · refine z_iload_n rfl rfl dX7_copyistOf_4 ?_
    refine z_iconst (nI 4) (by decide) dX7_copyistOf_5 ?_
    refine z_icmp_lt 20 (by decide) dX7_copyistOf_6 (fun h3 => ?_) (fun h4 => ?_)
    · exact absurd ⟨h2, h3⟩ hp
    · exact z_throwW (text := "no such copyist") (rfl) kt_116 (by decide +kernel) rfl (by decide) (by decide) (by decide) (by decide) dX7_copyistOf_9 dX7_copyistOf_12 dX7_copyistOf_13 dX7_copyistOf_16 dX7_copyistOf_19
set_option maxRecDepth 100000 in
set_option maxHeartbeats 4000000 in
theorem ct_X7_drawn {E : Nat × (Nat → Int32)} {μ : Nat → Nat → Int32} {g : zLw} (x way h : Int32) : zCt E kX7_drawn [.int (x), .int (way), .int (h)] (zm μ g) (.inl (some (.int (zdraw x way h))), zm μ g) := by
  refine zCt_of ko_X7_drawn (Nat.le_of_ble_eq_true rfl) (zas_i (zas_i (zas_i zas_0))) ⟨Nat.le_refl _, fun h => absurd h (Nat.lt_irrefl _)⟩ (Nat.le_of_ble_eq_true rfl) ?_
  show zV false E kX7_drawn 116 _ 0 [.int (x), .int (way), .int (h)] [] (zm μ g) 0 0
  refine z_iload_n rfl rfl dX7_drawn_0 ?_
  by_cases w1 : way = 1
  · refine z_look 27 28 (by decide) (by rw [w1]; decide) (by decide) dX7_drawn_1 ?_
    refine z_iload_n rfl rfl dX7_drawn_28 ?_
    refine z_iconst (nI 5) (by decide) dX7_drawn_29 ?_
    refine z_idiv (by decide) dX7_drawn_30 ?_
    refine z_iconst (nI 5) (by decide) dX7_drawn_31 ?_
    refine z_imul dX7_drawn_32 ?_
    exact z_iret (by simp [zdraw, w1]) rfl (znarI _) (by decide) (by decide) dX7_drawn_33
  · by_cases w2 : way = 2
    · refine z_look 33 34 (by decide) (by rw [w2]; decide) (by decide) dX7_drawn_1 ?_
      refine z_iload_n rfl rfl dX7_drawn_34 ?_
      refine z_iload_n rfl rfl dX7_drawn_35 ?_
      refine z_iadd dX7_drawn_36 ?_
      exact z_iret (by simp [zdraw, w2]) rfl (znarI _) (by decide) (by decide) dX7_drawn_37
    · refine z_look 37 38 (by decide) ((lv_osw w1 (by decide)).trans (lv_osw w2 (by decide))) (by decide) dX7_drawn_1 ?_
      refine z_iload_n rfl rfl dX7_drawn_38 ?_
      exact z_iret (by simp [zdraw, w1, w2]) rfl (znarI _) (by decide) (by decide) dX7_drawn_39
set_option maxRecDepth 100000 in
set_option maxHeartbeats 4000000 in
theorem ct_X7_sourceOf {E : Nat × (Nat → Int32)} {μ : Nat → Nat → Int32} {g : zLw} {nc : Nat} (hnc : μ 1 7 = nI nc) (hn12 : nc ≤ 12) {p : Nat} (hp : p < 24) (l : Int32) : zCt E kX7_sourceOf [.ref (1), .int (l), .int (nI p)] (zm μ g) (.inl (some (.int (zsrc μ nc p l))), zm μ g) := by
  refine zCt_of ko_X7_sourceOf (Nat.le_of_ble_eq_true rfl) (zas_r (zas_i (zas_i zas_0))) ⟨Nat.le_refl _, fun h => absurd h (Nat.lt_irrefl _)⟩ (Nat.le_of_ble_eq_true rfl) ?_
  show zV false E kX7_sourceOf 116 _ 0 [.ref (1), .int (l), .int (nI p)] [] (zm μ g) 0 0
  refine z_iload_n rfl rfl dX7_sourceOf_0 ?_
  refine z_if_lt 26 (by decide) dX7_sourceOf_1 (fun h1 => ?_) (fun h2 => ?_)
  · refine z_iconst (-1) (by decide) dX7_sourceOf_26 ?_
    exact z_iret (by rw [zsrc, if_neg (fun q => q.1 h1)]) rfl (znarI _) (by decide) (by decide) dX7_sourceOf_27
  · refine z_iload_n rfl rfl dX7_sourceOf_4 ?_
    refine z_aload_n rfl rfl dX7_sourceOf_5 ?_
    refine m_getI kf_X7_56 (zl_a rfl rfl) rfl dX7_sourceOf_6 ?_
    refine m_eqv (w := nI nc) (hnc) ?_
    refine z_icmp_ge 26 (by decide) dX7_sourceOf_9 (fun h3 => ?_) (fun h4 => ?_)
    · refine z_iconst (-1) (by decide) dX7_sourceOf_26 ?_
      exact z_iret (by rw [zsrc, if_neg (fun q => Int32.not_lt.mpr h3 q.2)]) rfl (znarI _) (by decide) (by decide) dX7_sourceOf_27
    · obtain ⟨j, hj, ej⟩ := zrg_of (n := nc) (p := l) ⟨h2, Int32.not_le.mp h4⟩ (by omega)
      refine z_aload_n rfl rfl dX7_sourceOf_12 ?_
      refine m_getR (20) kf_X7_45 (zl_a rfl rfl) rfl rfl (by decide) dX7_sourceOf_13 ?_
      refine z_iload_n rfl rfl dX7_sourceOf_16 ?_
      refine m_aald (j) (33 + 7 * j) (by decide) (zl_a rfl rfl) ej (by omega) (by decide) rfl (by omega) dX7_sourceOf_17 ?_
      refine m_getR (37 + 7 * j) kf_X7_244 (zc0 (by omega)) rfl (zl_rc (by omega)).2.2.2.1 (by omega) dX7_sourceOf_18 ?_
      refine z_iload_n rfl rfl dX7_sourceOf_21 ?_
      refine m_iald (p) (zc4 (by omega)) rfl (by omega) (by decide) dX7_sourceOf_22 ?_
      refine z_goto 27 (by decide) dX7_sourceOf_23 ?_
      exact z_iret (by rw [ej, zsrc_n hj hn12]) rfl (znarI _) (by decide) (by decide) dX7_sourceOf_27
set_option maxRecDepth 100000 in
set_option maxHeartbeats 4000000 in
theorem ct_X7_errorOfX {E : Nat × (Nat → Int32)} {μ : Nat → Nat → Int32} {g : zLw} {c p : Nat} (hc : c < 12) (hp : p < 24) : zCt E kX7_errorOf [.ref (1), .ref (33 + 7 * c), .int (nI p), .int (nI 1)] (zm μ g) (.inl (some (.int (μ (34 + 7 * c) p - μ 3 p))), zm μ g) := by
  refine zCt_of ko_X7_errorOf (Nat.le_of_ble_eq_true rfl) (zas_r (zas_r (zas_i (zas_i zas_0)))) ⟨Nat.le_refl _, fun h => absurd h (Nat.lt_irrefl _)⟩ (Nat.le_of_ble_eq_true rfl) ?_
  show zV false E kX7_errorOf 116 _ 0 [.ref (1), .ref (33 + 7 * c), .int (nI p), .int (nI 1)] [] (zm μ g) 0 0
  refine z_iload_n rfl rfl dX7_errorOf_0 ?_
  refine z_if_eq 23 (by decide) dX7_errorOf_1 (fun h => absurd h (by decide)) (fun _ => ?_)
  refine z_aload_n rfl rfl dX7_errorOf_4 ?_
  refine m_getR (34 + 7 * c) kf_X7_182 (zc0 (by omega)) rfl (zl_rc (by omega)).1 (by omega) dX7_errorOf_5 ?_
  refine z_iload_n rfl rfl dX7_errorOf_8 ?_
  refine m_iald (p) (zc1 (by omega)) rfl (by omega) (by decide) dX7_errorOf_9 ?_
  refine z_aload_n rfl rfl dX7_errorOf_10 ?_
  refine m_getR (2) kf_X7_10 (zl_a rfl rfl) rfl rfl (by decide) dX7_errorOf_11 ?_
  refine m_getR (3) kf_X7_92 (zl_a rfl rfl) rfl rfl (by decide) dX7_errorOf_14 ?_
  refine z_iload_n rfl rfl dX7_errorOf_17 ?_
  refine m_iald (p) (zl_a rfl rfl) rfl (by omega) (by decide) dX7_errorOf_18 ?_
  refine z_isub dX7_errorOf_19 ?_
  refine z_goto 39 (by decide) dX7_errorOf_20 ?_
  exact z_iret (rfl) rfl (znarI _) (by decide) (by decide) dX7_errorOf_39
set_option maxRecDepth 100000 in
set_option maxHeartbeats 4000000 in
theorem ct_X7_errorOfY {E : Nat × (Nat → Int32)} {μ : Nat → Nat → Int32} {g : zLw} {c p : Nat} (hc : c < 12) (hp : p < 24) : zCt E kX7_errorOf [.ref (1), .ref (33 + 7 * c), .int (nI p), .int (nI 0)] (zm μ g) (.inl (some (.int (μ (35 + 7 * c) p - μ 4 p))), zm μ g) := by
  refine zCt_of ko_X7_errorOf (Nat.le_of_ble_eq_true rfl) (zas_r (zas_r (zas_i (zas_i zas_0)))) ⟨Nat.le_refl _, fun h => absurd h (Nat.lt_irrefl _)⟩ (Nat.le_of_ble_eq_true rfl) ?_
  show zV false E kX7_errorOf 116 _ 0 [.ref (1), .ref (33 + 7 * c), .int (nI p), .int (nI 0)] [] (zm μ g) 0 0
  refine z_iload_n rfl rfl dX7_errorOf_0 ?_
  refine z_if_eq 23 (by decide) dX7_errorOf_1 (fun _ => ?_) (fun h => absurd h (by decide))
  refine z_aload_n rfl rfl dX7_errorOf_23 ?_
  refine m_getR (35 + 7 * c) kf_X7_187 (zc0 (by omega)) rfl (zl_rc (by omega)).2.1 (by omega) dX7_errorOf_24 ?_
  refine z_iload_n rfl rfl dX7_errorOf_27 ?_
  refine m_iald (p) (zc2 (by omega)) rfl (by omega) (by decide) dX7_errorOf_28 ?_
  refine z_aload_n rfl rfl dX7_errorOf_29 ?_
  refine m_getR (2) kf_X7_10 (zl_a rfl rfl) rfl rfl (by decide) dX7_errorOf_30 ?_
  refine m_getR (4) kf_X7_96 (zl_a rfl rfl) rfl rfl (by decide) dX7_errorOf_33 ?_
  refine z_iload_n rfl rfl dX7_errorOf_36 ?_
  refine m_iald (p) (zl_a rfl rfl) rfl (by omega) (by decide) dX7_errorOf_37 ?_
  refine z_isub dX7_errorOf_38 ?_
  exact z_iret (rfl) rfl (znarI _) (by decide) (by decide) dX7_errorOf_39
set_option maxRecDepth 100000 in
set_option maxHeartbeats 4000000 in
theorem ct_X7_errorOf {E : Nat × (Nat → Int32)} {μ : Nat → Nat → Int32} {g : zLw} {c p : Nat} (hc : c < 12) (hp : p < 24) (q : Prop) [Decidable q] : zCt E kX7_errorOf [.ref (1), .ref (33 + 7 * c), .int (nI p), .int (zb (q))] (zm μ g) (.inl (some (.int (zerr μ c p q))), zm μ g) := by
  refine zCt_of ko_X7_errorOf (Nat.le_of_ble_eq_true rfl) (zas_r (zas_r (zas_i (zas_i zas_0)))) ⟨Nat.le_refl _, fun h => absurd h (Nat.lt_irrefl _)⟩ (Nat.le_of_ble_eq_true rfl) ?_
  show zV false E kX7_errorOf 116 _ 0 [.ref (1), .ref (33 + 7 * c), .int (nI p), .int (zb (q))] [] (zm μ g) 0 0
  refine z_iload_n rfl rfl dX7_errorOf_0 ?_
  refine z_if_eq 23 (by decide) dX7_errorOf_1 (z_br zb_0 (fun h1 => ?_)) (z_br zb_n (fun h2 => ?_))
  · refine z_aload_n rfl rfl dX7_errorOf_23 ?_
    refine m_getR (35 + 7 * c) kf_X7_187 (zc0 (by omega)) rfl (zl_rc (by omega)).2.1 (by omega) dX7_errorOf_24 ?_
    refine z_iload_n rfl rfl dX7_errorOf_27 ?_
    refine m_iald (p) (zc2 (by omega)) rfl (by omega) (by decide) dX7_errorOf_28 ?_
    refine z_aload_n rfl rfl dX7_errorOf_29 ?_
    refine m_getR (2) kf_X7_10 (zl_a rfl rfl) rfl rfl (by decide) dX7_errorOf_30 ?_
    refine m_getR (4) kf_X7_96 (zl_a rfl rfl) rfl rfl (by decide) dX7_errorOf_33 ?_
    refine z_iload_n rfl rfl dX7_errorOf_36 ?_
    refine m_iald (p) (zl_a rfl rfl) rfl (by omega) (by decide) dX7_errorOf_37 ?_
    refine z_isub dX7_errorOf_38 ?_
    exact z_iret (by rw [zerr, if_neg h1]) rfl (znarI _) (by decide) (by decide) dX7_errorOf_39
  · refine z_aload_n rfl rfl dX7_errorOf_4 ?_
    refine m_getR (34 + 7 * c) kf_X7_182 (zc0 (by omega)) rfl (zl_rc (by omega)).1 (by omega) dX7_errorOf_5 ?_
    refine z_iload_n rfl rfl dX7_errorOf_8 ?_
    refine m_iald (p) (zc1 (by omega)) rfl (by omega) (by decide) dX7_errorOf_9 ?_
    refine z_aload_n rfl rfl dX7_errorOf_10 ?_
    refine m_getR (2) kf_X7_10 (zl_a rfl rfl) rfl rfl (by decide) dX7_errorOf_11 ?_
    refine m_getR (3) kf_X7_92 (zl_a rfl rfl) rfl rfl (by decide) dX7_errorOf_14 ?_
    refine z_iload_n rfl rfl dX7_errorOf_17 ?_
    refine m_iald (p) (zl_a rfl rfl) rfl (by omega) (by decide) dX7_errorOf_18 ?_
    refine z_isub dX7_errorOf_19 ?_
    refine z_goto 39 (by decide) dX7_errorOf_20 ?_
    exact z_iret (by rw [zerr, if_pos h2]) rfl (znarI _) (by decide) (by decide) dX7_errorOf_39
set_option maxRecDepth 100000 in
set_option maxHeartbeats 4000000 in
theorem ct_X7_hasTrueName {E : Nat × (Nat → Int32)} {μ : Nat → Nat → Int32} {g : zLw} {c p : Nat} (hc : c < 12) (hp : p < 24) : zCt E kX7_hasTrueName [.ref (1), .ref (33 + 7 * c), .int (nI p)] (zm μ g) (.inl (some (.int (zb (ztn μ c p)))), zm μ g) := by
  refine zCt_of ko_X7_hasTrueName (Nat.le_of_ble_eq_true rfl) (zas_r (zas_r (zas_i zas_0))) ⟨Nat.le_refl _, fun h => absurd h (Nat.lt_irrefl _)⟩ (Nat.le_of_ble_eq_true rfl) ?_
  show zV false E kX7_hasTrueName 116 _ 0 [.ref (1), .ref (33 + 7 * c), .int (nI p)] [] (zm μ g) 0 0
  refine z_aload_n rfl rfl dX7_hasTrueName_0 ?_
  refine m_getR (36 + 7 * c) kf_X7_143 (zc0 (by omega)) rfl (zl_rc (by omega)).2.2.1 (by omega) dX7_hasTrueName_1 ?_
  refine z_iload_n rfl rfl dX7_hasTrueName_4 ?_
  refine m_iald (p) (zc3 (by omega)) rfl (by omega) (by decide) dX7_hasTrueName_5 ?_
  refine z_aload_n rfl rfl dX7_hasTrueName_6 ?_
  refine m_getR (2) kf_X7_10 (zl_a rfl rfl) rfl rfl (by decide) dX7_hasTrueName_7 ?_
  refine m_getR (5) kf_X7_99 (zl_a rfl rfl) rfl rfl (by decide) dX7_hasTrueName_10 ?_
  refine z_iload_n rfl rfl dX7_hasTrueName_13 ?_
  refine m_iald (p) (zl_a rfl rfl) rfl (by omega) (by decide) dX7_hasTrueName_14 ?_
  refine z_icmp_ne 22 (by decide) dX7_hasTrueName_15 (fun h1 => ?_) (fun h2 => ?_)
  · refine z_iconst (nI 0) (by decide) dX7_hasTrueName_22 ?_
    exact z_iret (zleafF h1) rfl rfl (by decide) (by decide) dX7_hasTrueName_23
  · refine z_iconst (nI 1) (by decide) dX7_hasTrueName_18 ?_
    refine z_goto 23 (by decide) dX7_hasTrueName_19 ?_
    exact z_iret (zleafT h2) rfl rfl (by decide) (by decide) dX7_hasTrueName_23
set_option maxRecDepth 100000 in
set_option maxHeartbeats 4000000 in
theorem ct_X7_shareError {E : Nat × (Nat → Int32)} {μ : Nat → Nat → Int32} {g : zLw} {c d p : Nat} (hc : c < 12) (hd : d < 12) (hp : p < 24) : zCt E kX7_shareError [.ref (1), .ref (33 + 7 * c), .ref (33 + 7 * d), .int (nI p)] (zm μ g) (.inl (some (.int (zb (zshe μ c d p)))), zm μ g) := by
  refine zCt_of ko_X7_shareError (Nat.le_of_ble_eq_true rfl) (zas_r (zas_r (zas_r (zas_i zas_0)))) ⟨Nat.le_refl _, fun h => absurd h (Nat.lt_irrefl _)⟩ (Nat.le_of_ble_eq_true rfl) ?_
  show zV false E kX7_shareError 116 _ 0 [.ref (1), .ref (33 + 7 * c), .ref (33 + 7 * d), .int (nI p), .null] [] (zm μ g) 0 0
  refine z_aload_n rfl rfl dX7_shareError_0 ?_
  refine z_iload_n rfl rfl dX7_shareError_1 ?_
  refine z_callV (as := [.int (nI p)]) (ct_X0_knows (c := c) (p := p) (by omega) (by omega)) ko_X0_knows kl_X7_179 rfl (zc0 (by omega)) rfl rfl ⟨by decide, by decide, by decide, by decide⟩ (by decide) rfl dX7_shareError_2 ?_
  refine z_if_eq 16 (by decide) dX7_shareError_5 (z_br zb_0 (fun h1 => ?_)) (z_br zb_n (fun h2 => ?_))
  · refine z_iconst (nI 0) (by decide) dX7_shareError_16 ?_
    exact z_iret (zleafF (by simp_all)) rfl rfl (by decide) (by decide) dX7_shareError_17
  · refine z_aload_n rfl rfl dX7_shareError_8 ?_
    refine z_iload_n rfl rfl dX7_shareError_9 ?_
    refine z_callV (as := [.int (nI p)]) (ct_X0_knows (c := d) (p := p) (by omega) (by omega)) ko_X0_knows kl_X7_179 rfl (zc0 (by omega)) rfl rfl ⟨by decide, by decide, by decide, by decide⟩ (by decide) rfl dX7_shareError_10 ?_
    refine z_if_ne 18 (by decide) dX7_shareError_13 (z_br zb_n (fun h3 => ?_)) (z_br zb_0 (fun h4 => ?_))
    · refine z_aload_n rfl rfl dX7_shareError_18 ?_
      refine m_getR (34 + 7 * c) kf_X7_182 (zc0 (by omega)) rfl (zl_rc (by omega)).1 (by omega) dX7_shareError_19 ?_
      refine z_iload_n rfl rfl dX7_shareError_22 ?_
      refine m_iald (p) (zc1 (by omega)) rfl (by omega) (by decide) dX7_shareError_23 ?_
      refine z_aload_n rfl rfl dX7_shareError_24 ?_
      refine m_getR (34 + 7 * d) kf_X7_182 (zc0 (by omega)) rfl (zl_rc (by omega)).1 (by omega) dX7_shareError_25 ?_
      refine z_iload_n rfl rfl dX7_shareError_28 ?_
      refine m_iald (p) (zc1 (by omega)) rfl (by omega) (by decide) dX7_shareError_29 ?_
      refine z_icmp_ne 52 (by decide) dX7_shareError_30 (fun h5 => ?_) (fun h6 => ?_)
      · refine z_iconst (nI 0) (by decide) dX7_shareError_52 ?_
        refine z_istore (by decide) rfl dX7_shareError_53 ?_
        refine z_iload rfl dX7_shareError_55 ?_
        refine z_if_eq 84 (by decide) dX7_shareError_57 (fun _ => ?_) (fun h => absurd h (by decide))
        refine z_iconst (nI 0) (by decide) dX7_shareError_84 ?_
        exact z_iret (zleafF (by simp_all)) rfl rfl (by decide) (by decide) dX7_shareError_85
      · refine z_aload_n rfl rfl dX7_shareError_33 ?_
        refine m_getR (35 + 7 * c) kf_X7_187 (zc0 (by omega)) rfl (zl_rc (by omega)).2.1 (by omega) dX7_shareError_34 ?_
        refine z_iload_n rfl rfl dX7_shareError_37 ?_
        refine m_iald (p) (zc2 (by omega)) rfl (by omega) (by decide) dX7_shareError_38 ?_
        refine z_aload_n rfl rfl dX7_shareError_39 ?_
        refine m_getR (35 + 7 * d) kf_X7_187 (zc0 (by omega)) rfl (zl_rc (by omega)).2.1 (by omega) dX7_shareError_40 ?_
        refine z_iload_n rfl rfl dX7_shareError_43 ?_
        refine m_iald (p) (zc2 (by omega)) rfl (by omega) (by decide) dX7_shareError_44 ?_
        refine z_icmp_ne 52 (by decide) dX7_shareError_45 (fun h7 => ?_) (fun h8 => ?_)
        · refine z_iconst (nI 0) (by decide) dX7_shareError_52 ?_
          refine z_istore (by decide) rfl dX7_shareError_53 ?_
          refine z_iload rfl dX7_shareError_55 ?_
          refine z_if_eq 84 (by decide) dX7_shareError_57 (fun _ => ?_) (fun h => absurd h (by decide))
          refine z_iconst (nI 0) (by decide) dX7_shareError_84 ?_
          exact z_iret (zleafF (by simp_all)) rfl rfl (by decide) (by decide) dX7_shareError_85
        · refine z_iconst (nI 1) (by decide) dX7_shareError_48 ?_
          refine z_goto 53 (by decide) dX7_shareError_49 ?_
          refine z_istore (by decide) rfl dX7_shareError_53 ?_
          refine z_iload rfl dX7_shareError_55 ?_
          refine z_if_eq 84 (by decide) dX7_shareError_57 (fun h => absurd h (by decide)) (fun _ => ?_)
          refine z_aload_n rfl rfl dX7_shareError_60 ?_
          refine z_aload_n rfl rfl dX7_shareError_61 ?_
          refine z_iload_n rfl rfl dX7_shareError_62 ?_
          refine z_iconst (nI 1) (by decide) dX7_shareError_63 ?_
          refine z_callV (as := [.ref (33 + 7 * c), .int (nI p), .int (nI 1)]) (ct_X7_errorOfX (c := c) (p := p) (by omega) (by omega)) ko_X7_errorOf kl_X7_247 rfl (zl_a rfl rfl) rfl rfl ⟨by decide, by decide, by decide, by decide⟩ (by decide) rfl dX7_shareError_64 ?_
          refine z_if_ne 80 (by decide) dX7_shareError_67 (fun h9 => ?_) (fun h10 => ?_)
          · refine z_iconst (nI 1) (by decide) dX7_shareError_80 ?_
            refine z_goto 85 (by decide) dX7_shareError_81 ?_
            exact z_iret (zleafT ⟨by assumption, by assumption, by assumption, by assumption, by first | exact Or.inl (by assumption) | exact Or.inr (by assumption)⟩) rfl rfl (by decide) (by decide) dX7_shareError_85
          · refine z_aload_n rfl rfl dX7_shareError_70 ?_
            refine z_aload_n rfl rfl dX7_shareError_71 ?_
            refine z_iload_n rfl rfl dX7_shareError_72 ?_
            refine z_iconst (nI 0) (by decide) dX7_shareError_73 ?_
            refine z_callV (as := [.ref (33 + 7 * c), .int (nI p), .int (nI 0)]) (ct_X7_errorOfY (c := c) (p := p) (by omega) (by omega)) ko_X7_errorOf kl_X7_247 rfl (zl_a rfl rfl) rfl rfl ⟨by decide, by decide, by decide, by decide⟩ (by decide) rfl dX7_shareError_74 ?_
            refine z_if_eq 84 (by decide) dX7_shareError_77 (fun h11 => ?_) (fun h12 => ?_)
            · refine z_iconst (nI 0) (by decide) dX7_shareError_84 ?_
              exact z_iret (zleafF (by simp_all)) rfl rfl (by decide) (by decide) dX7_shareError_85
            · refine z_iconst (nI 1) (by decide) dX7_shareError_80 ?_
              refine z_goto 85 (by decide) dX7_shareError_81 ?_
              exact z_iret (zleafT ⟨by assumption, by assumption, by assumption, by assumption, by first | exact Or.inl (by assumption) | exact Or.inr (by assumption)⟩) rfl rfl (by decide) (by decide) dX7_shareError_85
    · refine z_iconst (nI 0) (by decide) dX7_shareError_16 ?_
      exact z_iret (zleafF (by simp_all)) rfl rfl (by decide) (by decide) dX7_shareError_17
set_option maxRecDepth 100000 in
set_option maxHeartbeats 4000000 in
theorem ct_X2_readingOf {E : Nat × (Nat → Int32)} {μ : Nat → Nat → Int32} {g : zLw} {c : Nat} (hc : c < 4) {j : Nat} (h1j : 1 ≤ j) (hj : j < 100) : zCt E kX2_readingOf [.ref (25 + 2 * c), .int (nI j)] (zm μ g) (.inl (some (.int (μ (26 + 2 * c) j))), zm μ g) := by
  refine zCt_of ko_X2_readingOf (Nat.le_of_ble_eq_true rfl) (zas_r (zas_i zas_0)) ⟨Nat.le_refl _, fun h => absurd h (Nat.lt_irrefl _)⟩ (Nat.le_of_ble_eq_true rfl) ?_
  show zV false E kX2_readingOf 116 _ 0 [.ref (25 + 2 * c), .int (nI j)] [] (zm μ g) 0 0
  refine z_iload_n rfl rfl dX2_readingOf_0 ?_
  refine z_callSN (as := [.int (nI j)]) (ct_X7_isName (nI j)) ko_X7_isName kl_X2_19 rfl rfl ⟨by decide, by decide, by decide, by decide⟩ (by decide) rfl dX2_readingOf_1 ?_
  refine z_if_eq 16 (by decide) dX2_readingOf_4 (z_br zb_0 (fun h1 => ?_)) (z_br zb_n (fun h2 => ?_))
  · exact absurd ⟨fun q => absurd ((nI_ltI (by omega) (by decide)).mp q) (by omega), fun q => absurd ((nI_ltI (by decide) (by omega)).mp q) (by omega)⟩ h1
  · refine z_aload_n rfl rfl dX2_readingOf_7 ?_
    refine m_getR (26 + 2 * c) kf_X2_15 (zy0 (by omega)) rfl (zl_ry (by omega)) (by omega) dX2_readingOf_8 ?_
    refine z_iload_n rfl rfl dX2_readingOf_11 ?_
    refine m_iald (j) (zy1 (by omega)) rfl (by omega) (by decide) dX2_readingOf_12 ?_
    refine z_goto 17 (by decide) dX2_readingOf_13 ?_
    exact z_iret (rfl) rfl (znarI _) (by decide) (by decide) dX2_readingOf_17
set_option maxRecDepth 100000 in
set_option maxHeartbeats 4000000 in
theorem ct_X6_give {E : Nat × (Nat → Int32)} {μ : Nat → Nat → Int32} {g : zLw} {p : Nat} (hp : p < 24) (x y : Int32) : zCt E kX6_give [.ref (15), .int (nI p), .int (x), .int (y)] (zm μ g) (.inl none, zm (zgive μ p x y) g) := by
  refine zCt_of ko_X6_give (Nat.le_of_ble_eq_true rfl) (zas_r (zas_i (zas_i (zas_i zas_0)))) ⟨Nat.le_refl _, fun h => absurd h (Nat.lt_irrefl _)⟩ (Nat.le_of_ble_eq_true rfl) ?_
  show zV false E kX6_give 116 _ 0 [.ref (15), .int (nI p), .int (x), .int (y)] [] (zm μ g) 0 0
  refine z_aload_n rfl rfl dX6_give_0 ?_
  refine m_getR (16) kf_X6_9 (zl_a rfl rfl) rfl rfl (by decide) dX6_give_1 ?_
  refine z_iload_n rfl rfl dX6_give_4 ?_
  refine z_dup2 rfl rfl dX6_give_5 ?_
  refine m_iald (p) (zl_a rfl rfl) rfl (by omega) (by decide) dX6_give_6 ?_
  refine z_iload_n rfl rfl dX6_give_7 ?_
  refine z_iadd dX6_give_8 ?_
  refine m_iast (p) (zl_a rfl rfl) rfl (by omega) (by decide) dX6_give_9 ?_
  refine z_aload_n rfl rfl dX6_give_10 ?_
  refine m_getR (17) kf_X6_15 (zl_a rfl rfl) rfl rfl (by decide) dX6_give_11 ?_
  refine z_iload_n rfl rfl dX6_give_14 ?_
  refine z_dup2 rfl rfl dX6_give_15 ?_
  refine m_iald (p) (zl_a rfl rfl) rfl (by omega) (by decide) dX6_give_16 ?_
  refine z_iload_n rfl rfl dX6_give_17 ?_
  refine z_iadd dX6_give_18 ?_
  refine m_iast (p) (zl_a rfl rfl) rfl (by omega) (by decide) dX6_give_19 ?_
  refine z_aload_n rfl rfl dX6_give_20 ?_
  refine m_getR (18) kf_X6_18 (zl_a rfl rfl) rfl rfl (by decide) dX6_give_21 ?_
  refine z_iload_n rfl rfl dX6_give_24 ?_
  refine z_dup2 rfl rfl dX6_give_25 ?_
  refine m_iald (p) (zl_a rfl rfl) rfl (by omega) (by decide) dX6_give_26 ?_
  refine z_iconst (nI 1) (by decide) dX6_give_27 ?_
  refine z_iadd dX6_give_28 ?_
  refine m_iast (p) (zl_a rfl rfl) rfl (by omega) (by decide) dX6_give_29 ?_
  exact z_vret (rfl) rfl (by decide) (by decide) dX6_give_30
