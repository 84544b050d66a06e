/-! the reference: small methods (printed by wip/whole/gen_g.py) -/
set_option maxRecDepth 100000 in
set_option maxHeartbeats 4000000 in
theorem ct_X8_isIn {E : Nat × (Nat → Int32)} {μ : Nat → Nat → Int32} {g : Int64} (v l h : Int32) : zCt E kX8_isIn [.int (v), .int (l), .int (h)] (zm μ g) (.inl (some (.int (zb (¬ v < l ∧ ¬ h < v)))), zm μ g) := by
  refine zCt_of ko_X8_isIn (Nat.le_of_ble_eq_true rfl) (zas_i (zas_i (zas_i zas_0))) ⟨Nat.le_refl _, fun h => absurd h (Nat.lt_irrefl _)⟩ (Nat.le_of_ble_eq_true rfl) ?_
  show zV false E kX8_isIn 145 _ 0 [.int (v), .int (l), .int (h)] [] (zm μ g) 0 0
  refine z_iload_n rfl rfl dX8_isIn_0 ?_
  refine z_iload_n rfl rfl dX8_isIn_1 ?_
  refine z_icmp_lt 14 (by decide) dX8_isIn_2 (fun h1 => ?_) (fun h2 => ?_)
  · refine z_iconst (nI 0) (by decide) dX8_isIn_14 ?_
    exact z_iret (zleafF (by simp_all)) rfl rfl (by decide) (by decide) dX8_isIn_15
  · refine z_iload_n rfl rfl dX8_isIn_5 ?_
    refine z_iload_n rfl rfl dX8_isIn_6 ?_
    refine z_icmp_gt 14 (by decide) dX8_isIn_7 (fun h3 => ?_) (fun h4 => ?_)
    · refine z_iconst (nI 0) (by decide) dX8_isIn_14 ?_
      exact z_iret (zleafF (by simp_all)) rfl rfl (by decide) (by decide) dX8_isIn_15
    · refine z_iconst (nI 1) (by decide) dX8_isIn_10 ?_
      refine z_goto 15 (by decide) dX8_isIn_11 ?_
      exact z_iret (zleafT (by and_intros <;> assumption)) rfl rfl (by decide) (by decide) dX8_isIn_15
set_option maxRecDepth 100000 in
set_option maxHeartbeats 4000000 in
theorem ct_X8_isInZ {E : Nat × (Nat → Int32)} {μ : Nat → Nat → Int32} {g : Int64} (v : Int32) (m : Nat) (hm : m < 2147483647) : zCt E kX8_isIn [.int (v), .int (nI 0), .int (nI m)] (zm μ g) (.inl (some (.int (zb (zrg (m + 1) v)))), zm μ g) := by
  rw [← zg_Z hm]
  exact ct_X8_isIn _ _ _
set_option maxRecDepth 100000 in
set_option maxHeartbeats 4000000 in
theorem ct_X8_isInR {E : Nat × (Nat → Int32)} {μ : Nat → Nat → Int32} {g : Int64} (v : Int32) (n : Nat) (hn : n < 2147483647) : zCt E kX8_isIn [.int (v), .int (nI 0), .int (nI n - nI 1)] (zm μ g) (.inl (some (.int (zb (zrg n v)))), zm μ g) := by
  rw [← zg_R hn]
  exact ct_X8_isIn _ _ _
set_option maxRecDepth 100000 in
set_option maxHeartbeats 4000000 in
theorem ct_X8_isInS {E : Nat × (Nat → Int32)} {μ : Nat → Nat → Int32} {g : Int64} (v l h : Int32) (hl : l = -h) : zCt E kX8_isIn [.int (v), .int (l), .int (h)] (zm μ g) (.inl (some (.int (zb (zin v h)))), zm μ g) := by
  rw [← zg_S hl]
  exact ct_X8_isIn _ _ _
set_option maxRecDepth 100000 in
set_option maxHeartbeats 4000000 in
theorem ct_X8_isInN {E : Nat × (Nat → Int32)} {μ : Nat → Nat → Int32} {g : Int64} {l j h : Nat} (h1 : l ≤ j) (h2 : j ≤ h) (h3 : h < 2147483648) : zCt E kX8_isIn [.int (nI j), .int (nI l), .int (nI h)] (zm μ g) (.inl (some (.int (nI 1))), zm μ g) := by
  rw [← zg_N h1 h2 h3]
  exact ct_X8_isIn _ _ _
set_option maxRecDepth 100000 in
set_option maxHeartbeats 4000000 in
theorem ct_X8_isInY {E : Nat × (Nat → Int32)} {μ : Nat → Nat → Int32} {g : Int64} (v : Int32) (m : Nat) : zCt E kX8_isIn [.int (v), .int (nI 0), .int (nI m)] (zm μ g) (.inl (some (.int (zb (¬ v < 0 ∧ ¬ nI m < v)))), zm μ g) := by
  rw [← zg_0]
  exact ct_X8_isIn _ _ _
set_option maxRecDepth 100000 in
set_option maxHeartbeats 4000000 in
theorem ct_X8_isPoint {E : Nat × (Nat → Int32)} {μ : Nat → Nat → Int32} {g : Int64} {j : Nat} (hj : j < 24) : zCt E kX8_isPoint [.int (nI j)] (zm μ g) (.inl (some (.int (nI 1))), zm μ g) := by
  refine zCt_of ko_X8_isPoint (Nat.le_of_ble_eq_true rfl) (zas_i zas_0) ⟨Nat.le_refl _, fun h => absurd h (Nat.lt_irrefl _)⟩ (Nat.le_of_ble_eq_true rfl) ?_
  show zV false E kX8_isPoint 145 _ 0 [.int (nI j)] [] (zm μ g) 0 0
  refine z_iload_n rfl rfl dX8_isPoint_0 ?_
  refine z_iconst (nI 0) (by decide) dX8_isPoint_1 ?_
  refine z_bipush (nI 23) (by decide) dX8_isPoint_2 ?_
  refine z_callS (as := [.int (nI j), .int (nI 0), .int (nI 23)]) (ct_X8_isInN (l := 0) (j := j) (h := 23) (by omega) (by omega) (by omega)) ko_X8_isIn kl_X8_96 rfl rfl ⟨by decide, by decide, by decide, by decide⟩ (Nat.le_of_ble_eq_true rfl) rfl dX8_isPoint_4 ?_
  exact z_iret (rfl) rfl rfl (by decide) (by decide) dX8_isPoint_7
set_option maxRecDepth 100000 in
set_option maxHeartbeats 4000000 in
theorem ctg_X8_isPoint {E : Nat × (Nat → Int32)} {μ : Nat → Nat → Int32} {g : Int64} (v : Int32) : zCt E kX8_isPoint [.int (v)] (zm μ g) (.inl (some (.int (zb (zrg 24 v)))), zm μ g) := by
  refine zCt_of ko_X8_isPoint (Nat.le_of_ble_eq_true rfl) (zas_i zas_0) ⟨Nat.le_refl _, fun h => absurd h (Nat.lt_irrefl _)⟩ (Nat.le_of_ble_eq_true rfl) ?_
  show zV false E kX8_isPoint 145 _ 0 [.int (v)] [] (zm μ g) 0 0
  refine z_iload_n rfl rfl dX8_isPoint_0 ?_
  refine z_iconst (nI 0) (by decide) dX8_isPoint_1 ?_
  refine z_bipush (nI 23) (by decide) dX8_isPoint_2 ?_
  refine z_callS (as := [.int (v), .int (nI 0), .int (nI 23)]) (ct_X8_isInZ (v) 23 (by decide)) ko_X8_isIn kl_X8_96 rfl rfl ⟨by decide, by decide, by decide, by decide⟩ (Nat.le_of_ble_eq_true rfl) rfl dX8_isPoint_4 ?_
  exact z_iret (rfl) rfl (zb_nar _) (by decide) (by decide) dX8_isPoint_7
set_option maxRecDepth 100000 in
set_option maxHeartbeats 4000000 in
theorem ct_X8_isBasin {E : Nat × (Nat → Int32)} {μ : Nat → Nat → Int32} {g : Int64} {j : Nat} (hj : j < 3) : zCt E kX8_isBasin [.int (nI j)] (zm μ g) (.inl (some (.int (nI 1))), zm μ g) := by
  refine zCt_of ko_X8_isBasin (Nat.le_of_ble_eq_true rfl) (zas_i zas_0) ⟨Nat.le_refl _, fun h => absurd h (Nat.lt_irrefl _)⟩ (Nat.le_of_ble_eq_true rfl) ?_
  show zV false E kX8_isBasin 145 _ 0 [.int (nI j)] [] (zm μ g) 0 0
  refine z_iload_n rfl rfl dX8_isBasin_0 ?_
  refine z_iconst (nI 0) (by decide) dX8_isBasin_1 ?_
  refine z_iconst (nI 2) (by decide) dX8_isBasin_2 ?_
  refine z_callS (as := [.int (nI j), .int (nI 0), .int (nI 2)]) (ct_X8_isInN (l := 0) (j := j) (h := 2) (by omega) (by omega) (by omega)) ko_X8_isIn kl_X8_96 rfl rfl ⟨by decide, by decide, by decide, by decide⟩ (Nat.le_of_ble_eq_true rfl) rfl dX8_isBasin_3 ?_
  exact z_iret (rfl) rfl rfl (by decide) (by decide) dX8_isBasin_6
set_option maxRecDepth 100000 in
set_option maxHeartbeats 4000000 in
theorem ctg_X8_isBasin {E : Nat × (Nat → Int32)} {μ : Nat → Nat → Int32} {g : Int64} (v : Int32) : zCt E kX8_isBasin [.int (v)] (zm μ g) (.inl (some (.int (zb (zrg 3 v)))), zm μ g) := by
  refine zCt_of ko_X8_isBasin (Nat.le_of_ble_eq_true rfl) (zas_i zas_0) ⟨Nat.le_refl _, fun h => absurd h (Nat.lt_irrefl _)⟩ (Nat.le_of_ble_eq_true rfl) ?_
  show zV false E kX8_isBasin 145 _ 0 [.int (v)] [] (zm μ g) 0 0
  refine z_iload_n rfl rfl dX8_isBasin_0 ?_
  refine z_iconst (nI 0) (by decide) dX8_isBasin_1 ?_
  refine z_iconst (nI 2) (by decide) dX8_isBasin_2 ?_
  refine z_callS (as := [.int (v), .int (nI 0), .int (nI 2)]) (ct_X8_isInZ (v) 2 (by decide)) ko_X8_isIn kl_X8_96 rfl rfl ⟨by decide, by decide, by decide, by decide⟩ (Nat.le_of_ble_eq_true rfl) rfl dX8_isBasin_3 ?_
  exact z_iret (rfl) rfl (zb_nar _) (by decide) (by decide) dX8_isBasin_6
set_option maxRecDepth 100000 in
set_option maxHeartbeats 4000000 in
theorem ct_X8_isCopyist {E : Nat × (Nat → Int32)} {μ : Nat → Nat → Int32} {g : Int64} {j : Nat} (hj : j < 4) : zCt E kX8_isCopyist [.int (nI j)] (zm μ g) (.inl (some (.int (nI 1))), zm μ g) := by
  refine zCt_of ko_X8_isCopyist (Nat.le_of_ble_eq_true rfl) (zas_i zas_0) ⟨Nat.le_refl _, fun h => absurd h (Nat.lt_irrefl _)⟩ (Nat.le_of_ble_eq_true rfl) ?_
  show zV false E kX8_isCopyist 145 _ 0 [.int (nI j)] [] (zm μ g) 0 0
  refine z_iload_n rfl rfl dX8_isCopyist_0 ?_
  refine z_iconst (nI 0) (by decide) dX8_isCopyist_1 ?_
  refine z_iconst (nI 3) (by decide) dX8_isCopyist_2 ?_
  refine z_callS (as := [.int (nI j), .int (nI 0), .int (nI 3)]) (ct_X8_isInN (l := 0) (j := j) (h := 3) (by omega) (by omega) (by omega)) ko_X8_isIn kl_X8_96 rfl rfl ⟨by decide, by decide, by decide, by decide⟩ (Nat.le_of_ble_eq_true rfl) rfl dX8_isCopyist_3 ?_
  exact z_iret (rfl) rfl rfl (by decide) (by decide) dX8_isCopyist_6
set_option maxRecDepth 100000 in
set_option maxHeartbeats 4000000 in
theorem ctg_X8_isCopyist {E : Nat × (Nat → Int32)} {μ : Nat → Nat → Int32} {g : Int64} (v : Int32) : zCt E kX8_isCopyist [.int (v)] (zm μ g) (.inl (some (.int (zb (zrg 4 v)))), zm μ g) := by
  refine zCt_of ko_X8_isCopyist (Nat.le_of_ble_eq_true rfl) (zas_i zas_0) ⟨Nat.le_refl _, fun h => absurd h (Nat.lt_irrefl _)⟩ (Nat.le_of_ble_eq_true rfl) ?_
  show zV false E kX8_isCopyist 145 _ 0 [.int (v)] [] (zm μ g) 0 0
  refine z_iload_n rfl rfl dX8_isCopyist_0 ?_
  refine z_iconst (nI 0) (by decide) dX8_isCopyist_1 ?_
  refine z_iconst (nI 3) (by decide) dX8_isCopyist_2 ?_
  refine z_callS (as := [.int (v), .int (nI 0), .int (nI 3)]) (ct_X8_isInZ (v) 3 (by decide)) ko_X8_isIn kl_X8_96 rfl rfl ⟨by decide, by decide, by decide, by decide⟩ (Nat.le_of_ble_eq_true rfl) rfl dX8_isCopyist_3 ?_
  exact z_iret (rfl) rfl (zb_nar _) (by decide) (by decide) dX8_isCopyist_6
set_option maxRecDepth 100000 in
set_option maxHeartbeats 4000000 in
theorem ct_X8_isChart {E : Nat × (Nat → Int32)} {μ : Nat → Nat → Int32} {g : Int64} {nc : Nat} (hnc : μ 117 13 = nI nc) (hn12 : nc ≤ 12) {j : Nat} (hj : j < nc) : zCt E kX8_isChart [.ref (117), .int (nI j)] (zm μ g) (.inl (some (.int (nI 1))), zm μ g) := by
  refine zCt_of ko_X8_isChart (Nat.le_of_ble_eq_true rfl) (zas_r (zas_i zas_0)) ⟨Nat.le_refl _, fun h => absurd h (Nat.lt_irrefl _)⟩ (Nat.le_of_ble_eq_true rfl) ?_
  show zV false E kX8_isChart 145 _ 0 [.ref (117), .int (nI j)] [] (zm μ g) 0 0
  refine z_iload_n rfl rfl dX8_isChart_0 ?_
  refine z_iconst (nI 0) (by decide) dX8_isChart_1 ?_
  refine z_aload_n rfl rfl dX8_isChart_2 ?_
  refine m_getI kf_X8_100 (zl_a rfl rfl) rfl dX8_isChart_3 ?_
  refine m_eqv (w := nI nc) (hnc) ?_
  refine z_iconst (nI 1) (by decide) dX8_isChart_6 ?_
  refine m_subN (by omega) dX8_isChart_7 ?_
  refine z_callS (as := [.int (nI j), .int (nI 0), .int (nI (nc - 1))]) (ct_X8_isInN (l := 0) (j := j) (h := nc - 1) (by omega) (by omega) (by omega)) ko_X8_isIn kl_X8_96 rfl rfl ⟨by decide, by decide, by decide, by decide⟩ (Nat.le_of_ble_eq_true rfl) rfl dX8_isChart_8 ?_
  exact z_iret (rfl) rfl rfl (by decide) (by decide) dX8_isChart_11
set_option maxRecDepth 100000 in
set_option maxHeartbeats 4000000 in
theorem ctg_X8_isChart {E : Nat × (Nat → Int32)} {μ : Nat → Nat → Int32} {g : Int64} {nc : Nat} (hnc : μ 117 13 = nI nc) (hn12 : nc ≤ 12) (v : Int32) : zCt E kX8_isChart [.ref (117), .int (v)] (zm μ g) (.inl (some (.int (zb (zrg nc v)))), zm μ g) := by
  refine zCt_of ko_X8_isChart (Nat.le_of_ble_eq_true rfl) (zas_r (zas_i zas_0)) ⟨Nat.le_refl _, fun h => absurd h (Nat.lt_irrefl _)⟩ (Nat.le_of_ble_eq_true rfl) ?_
  show zV false E kX8_isChart 145 _ 0 [.ref (117), .int (v)] [] (zm μ g) 0 0
  refine z_iload_n rfl rfl dX8_isChart_0 ?_
  refine z_iconst (nI 0) (by decide) dX8_isChart_1 ?_
  refine z_aload_n rfl rfl dX8_isChart_2 ?_
  refine m_getI kf_X8_100 (zl_a rfl rfl) rfl dX8_isChart_3 ?_
  refine m_eqv (w := nI nc) (hnc) ?_
  refine z_iconst (nI 1) (by decide) dX8_isChart_6 ?_
  refine z_isub dX8_isChart_7 ?_
  refine z_callS (as := [.int (v), .int (nI 0), .int ((nI nc) - (nI 1))]) (ct_X8_isInR (v) nc (by omega)) ko_X8_isIn kl_X8_96 rfl rfl ⟨by decide, by decide, by decide, by decide⟩ (Nat.le_of_ble_eq_true rfl) rfl dX8_isChart_8 ?_
  exact z_iret (rfl) rfl (zb_nar _) (by decide) (by decide) dX8_isChart_11
set_option maxRecDepth 100000 in
set_option maxHeartbeats 4000000 in
theorem ct_X8_isIsland {E : Nat × (Nat → Int32)} {μ : Nat → Nat → Int32} {g : Int64} {ni : Nat} (hni : μ 117 23 = nI ni) (hi20 : ni ≤ 20) {j : Nat} (hj : j < ni) : zCt E kX8_isIsland [.ref (117), .int (nI j)] (zm μ g) (.inl (some (.int (nI 1))), zm μ g) := by
  refine zCt_of ko_X8_isIsland (Nat.le_of_ble_eq_true rfl) (zas_r (zas_i zas_0)) ⟨Nat.le_refl _, fun h => absurd h (Nat.lt_irrefl _)⟩ (Nat.le_of_ble_eq_true rfl) ?_
  show zV false E kX8_isIsland 145 _ 0 [.ref (117), .int (nI j)] [] (zm μ g) 0 0
  refine z_iload_n rfl rfl dX8_isIsland_0 ?_
  refine z_iconst (nI 0) (by decide) dX8_isIsland_1 ?_
  refine z_aload_n rfl rfl dX8_isIsland_2 ?_
  refine m_getI kf_X8_103 (zl_a rfl rfl) rfl dX8_isIsland_3 ?_
  refine m_eqv (w := nI ni) (hni) ?_
  refine z_iconst (nI 1) (by decide) dX8_isIsland_6 ?_
  refine m_subN (by omega) dX8_isIsland_7 ?_
  refine z_callS (as := [.int (nI j), .int (nI 0), .int (nI (ni - 1))]) (ct_X8_isInN (l := 0) (j := j) (h := ni - 1) (by omega) (by omega) (by omega)) ko_X8_isIn kl_X8_96 rfl rfl ⟨by decide, by decide, by decide, by decide⟩ (Nat.le_of_ble_eq_true rfl) rfl dX8_isIsland_8 ?_
  exact z_iret (rfl) rfl rfl (by decide) (by decide) dX8_isIsland_11
set_option maxRecDepth 100000 in
set_option maxHeartbeats 4000000 in
theorem ctg_X8_isIsland {E : Nat × (Nat → Int32)} {μ : Nat → Nat → Int32} {g : Int64} {ni : Nat} (hni : μ 117 23 = nI ni) (hi20 : ni ≤ 20) (v : Int32) : zCt E kX8_isIsland [.ref (117), .int (v)] (zm μ g) (.inl (some (.int (zb (zrg ni v)))), zm μ g) := by
  refine zCt_of ko_X8_isIsland (Nat.le_of_ble_eq_true rfl) (zas_r (zas_i zas_0)) ⟨Nat.le_refl _, fun h => absurd h (Nat.lt_irrefl _)⟩ (Nat.le_of_ble_eq_true rfl) ?_
  show zV false E kX8_isIsland 145 _ 0 [.ref (117), .int (v)] [] (zm μ g) 0 0
  refine z_iload_n rfl rfl dX8_isIsland_0 ?_
  refine z_iconst (nI 0) (by decide) dX8_isIsland_1 ?_
  refine z_aload_n rfl rfl dX8_isIsland_2 ?_
  refine m_getI kf_X8_103 (zl_a rfl rfl) rfl dX8_isIsland_3 ?_
  refine m_eqv (w := nI ni) (hni) ?_
  refine z_iconst (nI 1) (by decide) dX8_isIsland_6 ?_
  refine z_isub dX8_isIsland_7 ?_
  refine z_callS (as := [.int (v), .int (nI 0), .int ((nI ni) - (nI 1))]) (ct_X8_isInR (v) ni (by omega)) ko_X8_isIn kl_X8_96 rfl rfl ⟨by decide, by decide, by decide, by decide⟩ (Nat.le_of_ble_eq_true rfl) rfl dX8_isIsland_8 ?_
  exact z_iret (rfl) rfl (zb_nar _) (by decide) (by decide) dX8_isIsland_11
set_option maxRecDepth 100000 in
set_option maxHeartbeats 4000000 in
theorem ct_X8_isName {E : Nat × (Nat → Int32)} {μ : Nat → Nat → Int32} {g : Int64} (v : Int32) : zCt E kX8_isName [.int (v)] (zm μ g) (.inl (some (.int (zb (znm v)))), zm μ g) := by
  refine zCt_of ko_X8_isName (Nat.le_of_ble_eq_true rfl) (zas_i zas_0) ⟨Nat.le_refl _, fun h => absurd h (Nat.lt_irrefl _)⟩ (Nat.le_of_ble_eq_true rfl) ?_
  show zV false E kX8_isName 145 _ 0 [.int (v)] [] (zm μ g) 0 0
  refine z_iload_n rfl rfl dX8_isName_0 ?_
  refine z_iconst (nI 1) (by decide) dX8_isName_1 ?_
  refine z_bipush (nI 99) (by decide) dX8_isName_2 ?_
  refine z_callS (as := [.int (v), .int (nI 1), .int (nI 99)]) (ct_X8_isIn (v) (nI 1) (nI 99)) ko_X8_isIn kl_X8_96 rfl rfl ⟨by decide, by decide, by decide, by decide⟩ (Nat.le_of_ble_eq_true rfl) rfl dX8_isName_4 ?_
  exact z_iret (rfl) rfl (zb_nar _) (by decide) (by decide) dX8_isName_7
set_option maxRecDepth 100000 in
set_option maxHeartbeats 4000000 in
theorem ct_X8_isYear {E : Nat × (Nat → Int32)} {μ : Nat → Nat → Int32} {g : Int64} (v : Int32) : zCt E kX8_isYear [.int (v)] (zm μ g) (.inl (some (.int (zb (zyr v)))), zm μ g) := by
  refine zCt_of ko_X8_isYear (Nat.le_of_ble_eq_true rfl) (zas_i zas_0) ⟨Nat.le_refl _, fun h => absurd h (Nat.lt_irrefl _)⟩ (Nat.le_of_ble_eq_true rfl) ?_
  show zV false E kX8_isYear 145 _ 0 [.int (v)] [] (zm μ g) 0 0
  refine z_iload_n rfl rfl dX8_isYear_0 ?_
  refine z_iconst (nI 0) (by decide) dX8_isYear_1 ?_
  refine z_sipush (nI 2000) (by decide) dX8_isYear_2 ?_
  refine z_callS (as := [.int (v), .int (nI 0), .int (nI 2000)]) (ct_X8_isInY (v) 2000) ko_X8_isIn kl_X8_96 rfl rfl ⟨by decide, by decide, by decide, by decide⟩ (Nat.le_of_ble_eq_true rfl) rfl dX8_isYear_5 ?_
  exact z_iret (rfl) rfl (zb_nar _) (by decide) (by decide) dX8_isYear_8
set_option maxRecDepth 100000 in
set_option maxHeartbeats 4000000 in
theorem ct_X8_thrown {E : Nat × (Nat → Int32)} {μ : Nat → Nat → Int32} {g : Int64}  : zCt E kX8_thrown [.ref (117)] (zm μ g) (.inl (some (.int (μ 117 0))), zm μ g) := by
  refine zCt_of ko_X8_thrown (Nat.le_of_ble_eq_true rfl) (zas_r zas_0) ⟨Nat.le_refl _, fun h => absurd h (Nat.lt_irrefl _)⟩ (Nat.le_of_ble_eq_true rfl) ?_
  show zV false E kX8_thrown 145 _ 0 [.ref (117)] [] (zm μ g) 0 0
  refine z_aload_n rfl rfl dX8_thrown_0 ?_
  refine m_getI kf_X8_92 (zl_a rfl rfl) rfl dX8_thrown_1 ?_
  exact z_iret (rfl) rfl (znarI _) (by decide) (by decide) dX8_thrown_4
set_option maxRecDepth 100000 in
set_option maxHeartbeats 4000000 in
theorem ct_X8_spot {E : Nat × (Nat → Int32)} {μ : Nat → Nat → Int32} {g : Int64} (c p : Nat) : zCt E kX8_spot [.int (nI c), .int (nI p)] (zm μ g) (.inl (some (.int (nI (24 * c + p)))), zm μ g) := by
  refine zCt_of ko_X8_spot (Nat.le_of_ble_eq_true rfl) (zas_i (zas_i zas_0)) ⟨Nat.le_refl _, fun h => absurd h (Nat.lt_irrefl _)⟩ (Nat.le_of_ble_eq_true rfl) ?_
  show zV false E kX8_spot 145 _ 0 [.int (nI c), .int (nI p)] [] (zm μ g) 0 0
  refine z_bipush (nI 24) (by decide) dX8_spot_0 ?_
  refine z_iload_n rfl rfl dX8_spot_2 ?_
  refine m_mulN dX8_spot_3 ?_
  refine z_iload_n rfl rfl dX8_spot_4 ?_
  refine m_addN dX8_spot_5 ?_
  exact z_iret (rfl) rfl (znarI _) (by decide) (by decide) dX8_spot_6
set_option maxRecDepth 100000 in
set_option maxHeartbeats 4000000 in
theorem ct_X8_size {E : Nat × (Nat → Int32)} {μ : Nat → Nat → Int32} {g : Int64} (x : Int32) : zCt E kX8_size [.int (x)] (zm μ g) (.inl (some (.int (zsz x))), zm μ g) := by
  refine zCt_of ko_X8_size (Nat.le_of_ble_eq_true rfl) (zas_i zas_0) ⟨Nat.le_refl _, fun h => absurd h (Nat.lt_irrefl _)⟩ (Nat.le_of_ble_eq_true rfl) ?_
  show zV false E kX8_size 145 _ 0 [.int (x)] [] (zm μ g) 0 0
  refine z_iload_n rfl rfl dX8_size_0 ?_
  refine z_if_ge 9 (by decide) dX8_size_1 (fun h1 => ?_) (fun h2 => ?_)
  · refine z_iload_n rfl rfl dX8_size_9 ?_
    exact z_iret (by rw [zsz, if_neg (Int32.not_lt.mpr h1)]) rfl (znarI _) (by decide) (by decide) dX8_size_10
  · refine z_iload_n rfl rfl dX8_size_4 ?_
    refine z_ineg dX8_size_5 ?_
    refine z_goto 10 (by decide) dX8_size_6 ?_
    exact z_iret (by rw [zsz, if_pos (Int32.not_le.mp h2)]) rfl (znarI _) (by decide) (by decide) dX8_size_10
set_option maxRecDepth 100000 in
set_option maxHeartbeats 4000000 in
theorem ct_X8_made {E : Nat × (Nat → Int32)} {μ : Nat → Nat → Int32} {g : Int64} (x way h : Int32) : zCt E kX8_made [.int (x), .int (way), .int (h)] (zm μ g) (.inl (some (.int (zmade x way h))), zm μ g) := by
  refine zCt_of ko_X8_made (Nat.le_of_ble_eq_true rfl) (zas_i (zas_i (zas_i zas_0))) ⟨Nat.le_refl _, fun h => absurd h (Nat.lt_irrefl _)⟩ (Nat.le_of_ble_eq_true rfl) ?_
  show zV false E kX8_made 145 _ 0 [.int (x), .int (way), .int (h)] [] (zm μ g) 0 0
  refine z_iload_n rfl rfl dX8_made_0 ?_
  refine z_iconst (nI 1) (by decide) dX8_made_1 ?_
  refine z_icmp_ne 13 (by decide) dX8_made_2 (fun h1 => ?_) (fun h2 => ?_)
  · refine z_iload_n rfl rfl dX8_made_13 ?_
    refine z_iconst (nI 2) (by decide) dX8_made_14 ?_
    refine z_icmp_ne 24 (by decide) dX8_made_15 (fun h3 => ?_) (fun h4 => ?_)
    · refine z_iload_n rfl rfl dX8_made_24 ?_
      exact z_iret (by rw [zmade, if_neg (by assumption), if_neg (by assumption)]) rfl (znarI _) (by decide) (by decide) dX8_made_25
    · refine z_iload_n rfl rfl dX8_made_18 ?_
      refine z_iload_n rfl rfl dX8_made_19 ?_
      refine z_iadd dX8_made_20 ?_
      refine z_goto 25 (by decide) dX8_made_21 ?_
      exact z_iret (by rw [zmade, if_neg (by assumption), if_pos (by assumption)]) rfl (znarI _) (by decide) (by decide) dX8_made_25
  · refine z_iload_n rfl rfl dX8_made_5 ?_
    refine z_iconst (nI 5) (by decide) dX8_made_6 ?_
    refine z_idiv (by decide) dX8_made_7 ?_
    refine z_iconst (nI 5) (by decide) dX8_made_8 ?_
    refine z_imul dX8_made_9 ?_
    refine z_goto 25 (by decide) dX8_made_10 ?_
    exact z_iret (by rw [zmade, if_pos (by assumption)]) rfl (znarI _) (by decide) (by decide) dX8_made_25
set_option maxRecDepth 100000 in
set_option maxHeartbeats 4000000 in
theorem ct_X8_next {E : Nat × (Nat → Int32)} {μ : Nat → Nat → Int32} {g : Int64} {c p : Nat} (hc : c < 12) (hp : p < 24) : zCt E kX8_next [.ref (117), .int (nI c), .int (nI p)] (zm μ g) (.inl (some (.int (znx μ c p))), zm μ g) := by
  refine zCt_of ko_X8_next (Nat.le_of_ble_eq_true rfl) (zas_r (zas_i (zas_i zas_0))) ⟨Nat.le_refl _, fun h => absurd h (Nat.lt_irrefl _)⟩ (Nat.le_of_ble_eq_true rfl) ?_
  show zV false E kX8_next 145 _ 0 [.ref (117), .int (nI c), .int (nI p)] [] (zm μ g) 0 0
  refine z_aload_n rfl rfl dX8_next_0 ?_
  refine m_getR (130) kf_X8_46 (zl_a rfl rfl) rfl rfl (by decide) dX8_next_1 ?_
  refine z_iload_n rfl rfl dX8_next_4 ?_
  refine z_iload_n rfl rfl dX8_next_5 ?_
  refine z_callS (as := [.int (nI c), .int (nI p)]) (ct_X8_spot (c) (p)) ko_X8_spot kl_X8_122 rfl rfl ⟨by decide, by decide, by decide, by decide⟩ (Nat.le_of_ble_eq_true rfl) rfl dX8_next_6 ?_
  refine m_zald (24 * c + p) (zl_a rfl rfl) rfl (by omega) (by decide) dX8_next_9 ?_
  refine z_if_eq 26 (by decide) dX8_next_10 (fun h1 => ?_) (fun h2 => ?_)
  · refine z_iconst (-1) (by decide) dX8_next_26 ?_
    exact z_iret (zlf_int (if_pos h1).symm |>.symm) rfl (znarI _) (by decide) (by decide) dX8_next_27
  · refine z_aload_n rfl rfl dX8_next_13 ?_
    refine m_getR (134) kf_X8_59 (zl_a rfl rfl) rfl rfl (by decide) dX8_next_14 ?_
    refine z_iload_n rfl rfl dX8_next_17 ?_
    refine z_iload_n rfl rfl dX8_next_18 ?_
    refine z_callS (as := [.int (nI c), .int (nI p)]) (ct_X8_spot (c) (p)) ko_X8_spot kl_X8_122 rfl rfl ⟨by decide, by decide, by decide, by decide⟩ (Nat.le_of_ble_eq_true rfl) rfl dX8_next_19 ?_
    refine m_iald (24 * c + p) (zl_a rfl rfl) rfl (by omega) (by decide) dX8_next_22 ?_
    refine z_goto 27 (by decide) dX8_next_23 ?_
    exact z_iret (zlf_int (if_neg h2)) rfl (znarI _) (by decide) (by decide) dX8_next_27
set_option maxRecDepth 100000 in
set_option maxHeartbeats 4000000 in
theorem ct_X8_isNear {E : Nat × (Nat → Int32)} {μ : Nat → Nat → Int32} {g : Int64} {i : Nat} (hi : i < 288) (x y : Int32) : zCt E kX8_isNear [.ref (117), .int (nI i), .int (x), .int (y)] (zm μ g) (.inl (some (.int (zb (znr μ i x y)))), zm μ g) := by
  refine zCt_of ko_X8_isNear (Nat.le_of_ble_eq_true rfl) (zas_r (zas_i (zas_i (zas_i zas_0)))) ⟨Nat.le_refl _, fun h => absurd h (Nat.lt_irrefl _)⟩ (Nat.le_of_ble_eq_true rfl) ?_
  show zV false E kX8_isNear 145 _ 0 [.ref (117), .int (nI i), .int (x), .int (y)] [] (zm μ g) 0 0
  refine z_aload_n rfl rfl dX8_isNear_0 ?_
  refine m_getR (130) kf_X8_46 (zl_a rfl rfl) rfl rfl (by decide) dX8_isNear_1 ?_
  refine z_iload_n rfl rfl dX8_isNear_4 ?_
  refine m_zald (i) (zl_a rfl rfl) rfl (by omega) (by decide) dX8_isNear_5 ?_
  refine z_if_eq 49 (by decide) dX8_isNear_6 (fun h1 => ?_) (fun h2 => ?_)
  · refine z_iconst (nI 1) (by decide) dX8_isNear_49 ?_
    refine z_goto 54 (by decide) dX8_isNear_50 ?_
    exact z_iret (zleafT (by first | exact Or.inl (by assumption) | exact Or.inr ⟨by assumption, by assumption⟩)) rfl rfl (by decide) (by decide) dX8_isNear_54
  · refine z_aload_n rfl rfl dX8_isNear_9 ?_
    refine m_getR (131) kf_X8_50 (zl_a rfl rfl) rfl rfl (by decide) dX8_isNear_10 ?_
    refine z_iload_n rfl rfl dX8_isNear_13 ?_
    refine m_iald (i) (zl_a rfl rfl) rfl (by omega) (by decide) dX8_isNear_14 ?_
    refine z_iload_n rfl rfl dX8_isNear_15 ?_
    refine z_iadd dX8_isNear_16 ?_
    refine z_sipush (-9999) (by decide) dX8_isNear_17 ?_
    refine z_sipush (nI 9999) (by decide) dX8_isNear_20 ?_
    refine z_callS (as := [.int ((μ (131) (i)) + x), .int (-9999), .int (nI 9999)]) (ct_X8_isInS ((μ (131) (i)) + x) (-9999) (nI 9999) (by decide)) ko_X8_isIn kl_X8_96 rfl rfl ⟨by decide, by decide, by decide, by decide⟩ (Nat.le_of_ble_eq_true rfl) rfl dX8_isNear_23 ?_
    refine z_if_eq 53 (by decide) dX8_isNear_26 (z_br zb_0 (fun h3 => ?_)) (z_br zb_n (fun h4 => ?_))
    · refine z_iconst (nI 0) (by decide) dX8_isNear_53 ?_
      exact z_iret (zleafF (fun q => by rcases q with q | q <;> first | exact absurd q (by assumption) | exact absurd q.1 (by assumption) | exact absurd q.2 (by assumption))) rfl rfl (by decide) (by decide) dX8_isNear_54
    · refine z_aload_n rfl rfl dX8_isNear_29 ?_
      refine m_getR (132) kf_X8_53 (zl_a rfl rfl) rfl rfl (by decide) dX8_isNear_30 ?_
      refine z_iload_n rfl rfl dX8_isNear_33 ?_
      refine m_iald (i) (zl_a rfl rfl) rfl (by omega) (by decide) dX8_isNear_34 ?_
      refine z_iload_n rfl rfl dX8_isNear_35 ?_
      refine z_iadd dX8_isNear_36 ?_
      refine z_sipush (-9999) (by decide) dX8_isNear_37 ?_
      refine z_sipush (nI 9999) (by decide) dX8_isNear_40 ?_
      refine z_callS (as := [.int ((μ (132) (i)) + y), .int (-9999), .int (nI 9999)]) (ct_X8_isInS ((μ (132) (i)) + y) (-9999) (nI 9999) (by decide)) ko_X8_isIn kl_X8_96 rfl rfl ⟨by decide, by decide, by decide, by decide⟩ (Nat.le_of_ble_eq_true rfl) rfl dX8_isNear_43 ?_
      refine z_if_eq 53 (by decide) dX8_isNear_46 (z_br zb_0 (fun h5 => ?_)) (z_br zb_n (fun h6 => ?_))
      · refine z_iconst (nI 0) (by decide) dX8_isNear_53 ?_
        exact z_iret (zleafF (fun q => by rcases q with q | q <;> first | exact absurd q (by assumption) | exact absurd q.1 (by assumption) | exact absurd q.2 (by assumption))) rfl rfl (by decide) (by decide) dX8_isNear_54
      · refine z_iconst (nI 1) (by decide) dX8_isNear_49 ?_
        refine z_goto 54 (by decide) dX8_isNear_50 ?_
        exact z_iret (zleafT (by first | exact Or.inl (by assumption) | exact Or.inr ⟨by assumption, by assumption⟩)) rfl rfl (by decide) (by decide) dX8_isNear_54
