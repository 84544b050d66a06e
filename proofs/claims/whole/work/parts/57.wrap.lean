/-! the law's wrappers (printed by wip/whole/gen_n.py) -/
theorem zκ_one : ∀ j, j ≠ 145 → (zκ j).1 ≠ 3 := by
  intro j hj
  by_cases h : j < 146
  · exact (by decide : ∀ j, j < 146 → j ≠ 145 → (zκ j).1 ≠ 3) j h hj
  · have e : zκ j = (9, 0) := by
      unfold zκ
      rw [if_neg (by omega), if_neg (by omega), if_neg (by omega)]
      rw [List.getD_eq_getElem?_getD, List.getElem?_eq_none (by show 29 ≤ j - 117; omega)]
      rfl
    rw [e]
    decide
set_option maxRecDepth 100000 in
set_option maxHeartbeats 4000000 in
theorem w_coast {E : Nat × (Nat → Int32)} {μ : Nat → Nat → Int32} {g : Int64} {p0 p1 p2 p3 p4 : Int32} {μ1 : zMu} (h : zCt E kX7_coast [.ref (1), .int (p0), .int (p1), .int (p2), .int (p3), .int (p4)] (zm μ g) (.inl (none), zm μ1 g)) : zCt E kL_coast [.ref (1), .int (p0), .int (p1), .int (p2), .int (p3), .int (p4)] (zm μ g) (.inl (some (.int (nI 0))), zm μ1 g) := by
  refine zCt_of ko_L_coast (Nat.le_of_ble_eq_true rfl) (zas_r (zas_i (zas_i (zas_i (zas_i (zas_i zas_0)))))) ⟨Nat.le_refl _, fun h => absurd h (Nat.lt_irrefl _)⟩ (Nat.le_of_ble_eq_true rfl) ?_
  show zV false E kL_coast 145 _ 0 [.ref (1), .int (p0), .int (p1), .int (p2), .int (p3), .int (p4), .null] [] (zm μ g) 0 0
  refine z_aload_n rfl rfl dL_coast_0 ?_
  refine z_iload_n rfl rfl dL_coast_1 ?_
  refine z_iload_n rfl rfl dL_coast_2 ?_
  refine z_iload_n rfl rfl dL_coast_3 ?_
  refine z_iload rfl dL_coast_4 ?_
  refine z_iload rfl dL_coast_6 ?_
  refine z_callV (as := [.int (p0), .int (p1), .int (p2), .int (p3), .int (p4)]) h ko_X7_coast kl_L_7 rfl (zl_a rfl rfl) rfl rfl ⟨by decide, by decide, by decide, by decide⟩ (Nat.le_of_ble_eq_true rfl) rfl dL_coast_8 ?_
  refine z_goto 26 (by decide) dL_coast_11 ?_
  refine z_iconst (nI 0) (by decide) dL_coast_26 ?_
  exact z_iret (rfl) rfl (znarI _) (by decide) (by decide) dL_coast_27
set_option maxRecDepth 100000 in
set_option maxHeartbeats 4000000 in
theorem wI_coast {E : Nat × (Nat → Int32)} {μ : Nat → Nat → Int32} {g : Int64} {p0 p1 p2 p3 p4 : Int32} (h : zCt E kX7_coast [.ref (1), .int (p0), .int (p1), .int (p2), .int (p3), .int (p4)] (zm μ g) (.inr xI, zm μ g)) : zCt E kL_coast [.ref (1), .int (p0), .int (p1), .int (p2), .int (p3), .int (p4)] (zm μ g) (.inl (some (.int (nI 1))), zm μ g) := by
  refine zCt_of ko_L_coast (Nat.le_of_ble_eq_true rfl) (zas_r (zas_i (zas_i (zas_i (zas_i (zas_i zas_0)))))) ⟨Nat.le_refl _, fun h => absurd h (Nat.lt_irrefl _)⟩ (Nat.le_of_ble_eq_true rfl) ?_
  show zV false E kL_coast 145 _ 0 [.ref (1), .int (p0), .int (p1), .int (p2), .int (p3), .int (p4), .null] [] (zm μ g) 0 0
  refine z_aload_n rfl rfl dL_coast_0 ?_
  refine z_iload_n rfl rfl dL_coast_1 ?_
  refine z_iload_n rfl rfl dL_coast_2 ?_
  refine z_iload_n rfl rfl dL_coast_3 ?_
  refine z_iload rfl dL_coast_4 ?_
  refine z_iload rfl dL_coast_6 ?_
  refine z_callVx (as := [.int (p0), .int (p1), .int (p2), .int (p3), .int (p4)]) h ko_X7_coast kl_L_7 rfl (zl_a rfl rfl) rfl rfl ⟨by decide, by decide, by decide, by decide⟩ (by decide) rfl dL_coast_8 ?_
  refine zX_catch (hp := 14) (i := 6) (ls1 := [.ref (1), .int (p0), .int (p1), .int (p2), .int (p3), .int (p4), .null]) [] (0, 11, 14, 13) [(0, 11, 18, 15), (0, 11, 22, 17)] rfl (fun _ h => by cases h) (by decide) rfl (by decide) (zG_in 215 (by decide +kernel) rfl) (by decide) (by decide) rfl dL_coast_14 ?_
  refine z_iconst (nI 1) (by decide) dL_coast_16 ?_
  exact z_iret (rfl) rfl (znarI _) (by decide) (by decide) dL_coast_17
set_option maxRecDepth 100000 in
set_option maxHeartbeats 4000000 in
theorem wA_coast {E : Nat × (Nat → Int32)} {μ : Nat → Nat → Int32} {g : Int64} {p0 p1 p2 p3 p4 : Int32} (h : zCt E kX7_coast [.ref (1), .int (p0), .int (p1), .int (p2), .int (p3), .int (p4)] (zm μ g) (.inr xA, zm μ g)) : zCt E kL_coast [.ref (1), .int (p0), .int (p1), .int (p2), .int (p3), .int (p4)] (zm μ g) (.inl (some (.int (nI 2))), zm μ g) := by
  refine zCt_of ko_L_coast (Nat.le_of_ble_eq_true rfl) (zas_r (zas_i (zas_i (zas_i (zas_i (zas_i zas_0)))))) ⟨Nat.le_refl _, fun h => absurd h (Nat.lt_irrefl _)⟩ (Nat.le_of_ble_eq_true rfl) ?_
  show zV false E kL_coast 145 _ 0 [.ref (1), .int (p0), .int (p1), .int (p2), .int (p3), .int (p4), .null] [] (zm μ g) 0 0
  refine z_aload_n rfl rfl dL_coast_0 ?_
  refine z_iload_n rfl rfl dL_coast_1 ?_
  refine z_iload_n rfl rfl dL_coast_2 ?_
  refine z_iload_n rfl rfl dL_coast_3 ?_
  refine z_iload rfl dL_coast_4 ?_
  refine z_iload rfl dL_coast_6 ?_
  refine z_callVx (as := [.int (p0), .int (p1), .int (p2), .int (p3), .int (p4)]) h ko_X7_coast kl_L_7 rfl (zl_a rfl rfl) rfl rfl ⟨by decide, by decide, by decide, by decide⟩ (by decide) rfl dL_coast_8 ?_
  refine zX_catch (hp := 18) (i := 6) (ls1 := [.ref (1), .int (p0), .int (p1), .int (p2), .int (p3), .int (p4), .null]) [(0, 11, 14, 13)] (0, 11, 18, 15) [(0, 11, 22, 17)] rfl (List.forall_mem_cons.mpr ⟨⟨by decide, "java/lang/IndexOutOfBoundsException", zG_in 215 (by decide +kernel) rfl, by decide⟩, (fun _ h => by cases h)⟩) (by decide) rfl (by decide) (zG_in 216 (by decide +kernel) rfl) (by decide) (by decide) rfl dL_coast_18 ?_
  refine z_iconst (nI 2) (by decide) dL_coast_20 ?_
  exact z_iret (rfl) rfl (znarI _) (by decide) (by decide) dL_coast_21
set_option maxRecDepth 100000 in
set_option maxHeartbeats 4000000 in
theorem wS_coast {E : Nat × (Nat → Int32)} {μ : Nat → Nat → Int32} {g : Int64} {p0 p1 p2 p3 p4 : Int32} (h : zCt E kX7_coast [.ref (1), .int (p0), .int (p1), .int (p2), .int (p3), .int (p4)] (zm μ g) (.inr xS, zm μ g)) : zCt E kL_coast [.ref (1), .int (p0), .int (p1), .int (p2), .int (p3), .int (p4)] (zm μ g) (.inl (some (.int (nI 3))), zm μ g) := by
  refine zCt_of ko_L_coast (Nat.le_of_ble_eq_true rfl) (zas_r (zas_i (zas_i (zas_i (zas_i (zas_i zas_0)))))) ⟨Nat.le_refl _, fun h => absurd h (Nat.lt_irrefl _)⟩ (Nat.le_of_ble_eq_true rfl) ?_
  show zV false E kL_coast 145 _ 0 [.ref (1), .int (p0), .int (p1), .int (p2), .int (p3), .int (p4), .null] [] (zm μ g) 0 0
  refine z_aload_n rfl rfl dL_coast_0 ?_
  refine z_iload_n rfl rfl dL_coast_1 ?_
  refine z_iload_n rfl rfl dL_coast_2 ?_
  refine z_iload_n rfl rfl dL_coast_3 ?_
  refine z_iload rfl dL_coast_4 ?_
  refine z_iload rfl dL_coast_6 ?_
  refine z_callVx (as := [.int (p0), .int (p1), .int (p2), .int (p3), .int (p4)]) h ko_X7_coast kl_L_7 rfl (zl_a rfl rfl) rfl rfl ⟨by decide, by decide, by decide, by decide⟩ (by decide) rfl dL_coast_8 ?_
  refine zX_catch (hp := 22) (i := 6) (ls1 := [.ref (1), .int (p0), .int (p1), .int (p2), .int (p3), .int (p4), .null]) [(0, 11, 14, 13), (0, 11, 18, 15)] (0, 11, 22, 17) [] rfl (List.forall_mem_cons.mpr ⟨⟨by decide, "java/lang/IndexOutOfBoundsException", zG_in 215 (by decide +kernel) rfl, by decide⟩, (List.forall_mem_cons.mpr ⟨⟨by decide, "java/lang/IllegalArgumentException", zG_in 216 (by decide +kernel) rfl, by decide⟩, (fun _ h => by cases h)⟩)⟩) (by decide) rfl (by decide) (zG_in 217 (by decide +kernel) rfl) (by decide) (by decide) rfl dL_coast_22 ?_
  refine z_iconst (nI 3) (by decide) dL_coast_24 ?_
  exact z_iret (rfl) rfl (znarI _) (by decide) (by decide) dL_coast_25
set_option maxRecDepth 100000 in
set_option maxHeartbeats 4000000 in
theorem w_pilot {E : Nat × (Nat → Int32)} {μ : Nat → Nat → Int32} {g : Int64} {p0 p1 : Int32} {v : Int32} {μ1 : zMu} (h : zCt E kX7_pilot [.ref (1), .int (p0), .int (p1)] (zm μ g) (.inl (some (.int v)), zm μ1 g)) : zCt E kL_pilot [.ref (1), .int (p0), .int (p1), .ref (145)] (zm μ g) (.inl (some (.int (nI 0))), zm μ1 v.toInt64) := by
  refine zCt_of ko_L_pilot (Nat.le_of_ble_eq_true rfl) (zas_r (zas_i (zas_i (zas_r zas_0)))) ⟨Nat.le_refl _, fun h => absurd h (Nat.lt_irrefl _)⟩ (Nat.le_of_ble_eq_true rfl) ?_
  show zV false E kL_pilot 145 _ 0 [.ref (1), .int (p0), .int (p1), .ref (145), .null] [] (zm μ g) 0 0
  refine z_aload_n rfl rfl dL_pilot_0 ?_
  refine z_iconst (nI 0) (by decide) dL_pilot_1 ?_
  refine z_aload_n rfl rfl dL_pilot_2 ?_
  refine z_iload_n rfl rfl dL_pilot_3 ?_
  refine z_iload_n rfl rfl dL_pilot_4 ?_
  refine z_callV (as := [.int (p0), .int (p1)]) h ko_X7_pilot kl_L_19 rfl (zl_a rfl rfl) rfl rfl ⟨by decide, by decide, by decide, by decide⟩ (Nat.le_of_ble_eq_true rfl) rfl dL_pilot_5 ?_
  refine z_i2l dL_pilot_8 ?_
  refine z_last (zl_a rfl rfl) zκ_one rfl dL_pilot_9 ?_
  refine z_goto 21 (by decide) dL_pilot_10 ?_
  refine z_iconst (nI 0) (by decide) dL_pilot_21 ?_
  exact z_iret (rfl) rfl (znarI _) (by decide) (by decide) dL_pilot_22
set_option maxRecDepth 100000 in
set_option maxHeartbeats 4000000 in
theorem wA_pilot {E : Nat × (Nat → Int32)} {μ : Nat → Nat → Int32} {g : Int64} {p0 p1 : Int32} (h : zCt E kX7_pilot [.ref (1), .int (p0), .int (p1)] (zm μ g) (.inr xA, zm μ g)) : zCt E kL_pilot [.ref (1), .int (p0), .int (p1), .ref (145)] (zm μ g) (.inl (some (.int (nI 1))), zm μ g) := by
  refine zCt_of ko_L_pilot (Nat.le_of_ble_eq_true rfl) (zas_r (zas_i (zas_i (zas_r zas_0)))) ⟨Nat.le_refl _, fun h => absurd h (Nat.lt_irrefl _)⟩ (Nat.le_of_ble_eq_true rfl) ?_
  show zV false E kL_pilot 145 _ 0 [.ref (1), .int (p0), .int (p1), .ref (145), .null] [] (zm μ g) 0 0
  refine z_aload_n rfl rfl dL_pilot_0 ?_
  refine z_iconst (nI 0) (by decide) dL_pilot_1 ?_
  refine z_aload_n rfl rfl dL_pilot_2 ?_
  refine z_iload_n rfl rfl dL_pilot_3 ?_
  refine z_iload_n rfl rfl dL_pilot_4 ?_
  refine z_callVx (as := [.int (p0), .int (p1)]) h ko_X7_pilot kl_L_19 rfl (zl_a rfl rfl) rfl rfl ⟨by decide, by decide, by decide, by decide⟩ (by decide) rfl dL_pilot_5 ?_
  refine zX_catch (hp := 13) (i := 4) (ls1 := [.ref (1), .int (p0), .int (p1), .ref (145), .null]) [] (0, 10, 13, 15) [(0, 10, 17, 17)] rfl (fun _ h => by cases h) (by decide) rfl (by decide) (zG_in 216 (by decide +kernel) rfl) (by decide) (by decide) rfl dL_pilot_13 ?_
  refine z_iconst (nI 1) (by decide) dL_pilot_15 ?_
  exact z_iret (rfl) rfl (znarI _) (by decide) (by decide) dL_pilot_16
set_option maxRecDepth 100000 in
set_option maxHeartbeats 4000000 in
theorem wS_pilot {E : Nat × (Nat → Int32)} {μ : Nat → Nat → Int32} {g : Int64} {p0 p1 : Int32} (h : zCt E kX7_pilot [.ref (1), .int (p0), .int (p1)] (zm μ g) (.inr xS, zm μ g)) : zCt E kL_pilot [.ref (1), .int (p0), .int (p1), .ref (145)] (zm μ g) (.inl (some (.int (nI 2))), zm μ g) := by
  refine zCt_of ko_L_pilot (Nat.le_of_ble_eq_true rfl) (zas_r (zas_i (zas_i (zas_r zas_0)))) ⟨Nat.le_refl _, fun h => absurd h (Nat.lt_irrefl _)⟩ (Nat.le_of_ble_eq_true rfl) ?_
  show zV false E kL_pilot 145 _ 0 [.ref (1), .int (p0), .int (p1), .ref (145), .null] [] (zm μ g) 0 0
  refine z_aload_n rfl rfl dL_pilot_0 ?_
  refine z_iconst (nI 0) (by decide) dL_pilot_1 ?_
  refine z_aload_n rfl rfl dL_pilot_2 ?_
  refine z_iload_n rfl rfl dL_pilot_3 ?_
  refine z_iload_n rfl rfl dL_pilot_4 ?_
  refine z_callVx (as := [.int (p0), .int (p1)]) h ko_X7_pilot kl_L_19 rfl (zl_a rfl rfl) rfl rfl ⟨by decide, by decide, by decide, by decide⟩ (by decide) rfl dL_pilot_5 ?_
  refine zX_catch (hp := 17) (i := 4) (ls1 := [.ref (1), .int (p0), .int (p1), .ref (145), .null]) [(0, 10, 13, 15)] (0, 10, 17, 17) [] rfl (List.forall_mem_cons.mpr ⟨⟨by decide, "java/lang/IllegalArgumentException", zG_in 216 (by decide +kernel) rfl, by decide⟩, (fun _ h => by cases h)⟩) (by decide) rfl (by decide) (zG_in 217 (by decide +kernel) rfl) (by decide) (by decide) rfl dL_pilot_17 ?_
  refine z_iconst (nI 2) (by decide) dL_pilot_19 ?_
  exact z_iret (rfl) rfl (znarI _) (by decide) (by decide) dL_pilot_20
set_option maxRecDepth 100000 in
set_option maxHeartbeats 4000000 in
theorem w_report {E : Nat × (Nat → Int32)} {μ : Nat → Nat → Int32} {g : Int64} {p0 p1 p2 : Int32} {v : Int32} {μ1 : zMu} (h : zCt E kX7_report [.ref (1), .int (p0), .int (p1), .int (p2)] (zm μ g) (.inl (some (.int v)), zm μ1 g)) : zCt E kL_report [.ref (1), .int (p0), .int (p1), .int (p2), .ref (145)] (zm μ g) (.inl (some (.int (nI 0))), zm μ1 v.toInt64) := by
  refine zCt_of ko_L_report (Nat.le_of_ble_eq_true rfl) (zas_r (zas_i (zas_i (zas_i (zas_r zas_0))))) ⟨Nat.le_refl _, fun h => absurd h (Nat.lt_irrefl _)⟩ (Nat.le_of_ble_eq_true rfl) ?_
  show zV false E kL_report 145 _ 0 [.ref (1), .int (p0), .int (p1), .int (p2), .ref (145), .null] [] (zm μ g) 0 0
  refine z_aload rfl dL_report_0 ?_
  refine z_iconst (nI 0) (by decide) dL_report_2 ?_
  refine z_aload_n rfl rfl dL_report_3 ?_
  refine z_iload_n rfl rfl dL_report_4 ?_
  refine z_iload_n rfl rfl dL_report_5 ?_
  refine z_iload_n rfl rfl dL_report_6 ?_
  refine z_callV (as := [.int (p0), .int (p1), .int (p2)]) h ko_X7_report kl_L_23 rfl (zl_a rfl rfl) rfl rfl ⟨by decide, by decide, by decide, by decide⟩ (Nat.le_of_ble_eq_true rfl) rfl dL_report_7 ?_
  refine z_i2l dL_report_10 ?_
  refine z_last (zl_a rfl rfl) zκ_one rfl dL_report_11 ?_
  refine z_goto 27 (by decide) dL_report_12 ?_
  refine z_iconst (nI 0) (by decide) dL_report_27 ?_
  exact z_iret (rfl) rfl (znarI _) (by decide) (by decide) dL_report_28
set_option maxRecDepth 100000 in
set_option maxHeartbeats 4000000 in
theorem wI_report {E : Nat × (Nat → Int32)} {μ : Nat → Nat → Int32} {g : Int64} {p0 p1 p2 : Int32} (h : zCt E kX7_report [.ref (1), .int (p0), .int (p1), .int (p2)] (zm μ g) (.inr xI, zm μ g)) : zCt E kL_report [.ref (1), .int (p0), .int (p1), .int (p2), .ref (145)] (zm μ g) (.inl (some (.int (nI 1))), zm μ g) := by
  refine zCt_of ko_L_report (Nat.le_of_ble_eq_true rfl) (zas_r (zas_i (zas_i (zas_i (zas_r zas_0))))) ⟨Nat.le_refl _, fun h => absurd h (Nat.lt_irrefl _)⟩ (Nat.le_of_ble_eq_true rfl) ?_
  show zV false E kL_report 145 _ 0 [.ref (1), .int (p0), .int (p1), .int (p2), .ref (145), .null] [] (zm μ g) 0 0
  refine z_aload rfl dL_report_0 ?_
  refine z_iconst (nI 0) (by decide) dL_report_2 ?_
  refine z_aload_n rfl rfl dL_report_3 ?_
  refine z_iload_n rfl rfl dL_report_4 ?_
  refine z_iload_n rfl rfl dL_report_5 ?_
  refine z_iload_n rfl rfl dL_report_6 ?_
  refine z_callVx (as := [.int (p0), .int (p1), .int (p2)]) h ko_X7_report kl_L_23 rfl (zl_a rfl rfl) rfl rfl ⟨by decide, by decide, by decide, by decide⟩ (by decide) rfl dL_report_7 ?_
  refine zX_catch (hp := 15) (i := 5) (ls1 := [.ref (1), .int (p0), .int (p1), .int (p2), .ref (145), .null]) [] (0, 12, 15, 13) [(0, 12, 19, 15), (0, 12, 23, 17)] rfl (fun _ h => by cases h) (by decide) rfl (by decide) (zG_in 215 (by decide +kernel) rfl) (by decide) (by decide) rfl dL_report_15 ?_
  refine z_iconst (nI 1) (by decide) dL_report_17 ?_
  exact z_iret (rfl) rfl (znarI _) (by decide) (by decide) dL_report_18
set_option maxRecDepth 100000 in
set_option maxHeartbeats 4000000 in
theorem wA_report {E : Nat × (Nat → Int32)} {μ : Nat → Nat → Int32} {g : Int64} {p0 p1 p2 : Int32} (h : zCt E kX7_report [.ref (1), .int (p0), .int (p1), .int (p2)] (zm μ g) (.inr xA, zm μ g)) : zCt E kL_report [.ref (1), .int (p0), .int (p1), .int (p2), .ref (145)] (zm μ g) (.inl (some (.int (nI 2))), zm μ g) := by
  refine zCt_of ko_L_report (Nat.le_of_ble_eq_true rfl) (zas_r (zas_i (zas_i (zas_i (zas_r zas_0))))) ⟨Nat.le_refl _, fun h => absurd h (Nat.lt_irrefl _)⟩ (Nat.le_of_ble_eq_true rfl) ?_
  show zV false E kL_report 145 _ 0 [.ref (1), .int (p0), .int (p1), .int (p2), .ref (145), .null] [] (zm μ g) 0 0
  refine z_aload rfl dL_report_0 ?_
  refine z_iconst (nI 0) (by decide) dL_report_2 ?_
  refine z_aload_n rfl rfl dL_report_3 ?_
  refine z_iload_n rfl rfl dL_report_4 ?_
  refine z_iload_n rfl rfl dL_report_5 ?_
  refine z_iload_n rfl rfl dL_report_6 ?_
  refine z_callVx (as := [.int (p0), .int (p1), .int (p2)]) h ko_X7_report kl_L_23 rfl (zl_a rfl rfl) rfl rfl ⟨by decide, by decide, by decide, by decide⟩ (by decide) rfl dL_report_7 ?_
  refine zX_catch (hp := 19) (i := 5) (ls1 := [.ref (1), .int (p0), .int (p1), .int (p2), .ref (145), .null]) [(0, 12, 15, 13)] (0, 12, 19, 15) [(0, 12, 23, 17)] rfl (List.forall_mem_cons.mpr ⟨⟨by decide, "java/lang/IndexOutOfBoundsException", zG_in 215 (by decide +kernel) rfl, by decide⟩, (fun _ h => by cases h)⟩) (by decide) rfl (by decide) (zG_in 216 (by decide +kernel) rfl) (by decide) (by decide) rfl dL_report_19 ?_
  refine z_iconst (nI 2) (by decide) dL_report_21 ?_
  exact z_iret (rfl) rfl (znarI _) (by decide) (by decide) dL_report_22
set_option maxRecDepth 100000 in
set_option maxHeartbeats 4000000 in
theorem wS_report {E : Nat × (Nat → Int32)} {μ : Nat → Nat → Int32} {g : Int64} {p0 p1 p2 : Int32} (h : zCt E kX7_report [.ref (1), .int (p0), .int (p1), .int (p2)] (zm μ g) (.inr xS, zm μ g)) : zCt E kL_report [.ref (1), .int (p0), .int (p1), .int (p2), .ref (145)] (zm μ g) (.inl (some (.int (nI 3))), zm μ g) := by
  refine zCt_of ko_L_report (Nat.le_of_ble_eq_true rfl) (zas_r (zas_i (zas_i (zas_i (zas_r zas_0))))) ⟨Nat.le_refl _, fun h => absurd h (Nat.lt_irrefl _)⟩ (Nat.le_of_ble_eq_true rfl) ?_
  show zV false E kL_report 145 _ 0 [.ref (1), .int (p0), .int (p1), .int (p2), .ref (145), .null] [] (zm μ g) 0 0
  refine z_aload rfl dL_report_0 ?_
  refine z_iconst (nI 0) (by decide) dL_report_2 ?_
  refine z_aload_n rfl rfl dL_report_3 ?_
  refine z_iload_n rfl rfl dL_report_4 ?_
  refine z_iload_n rfl rfl dL_report_5 ?_
  refine z_iload_n rfl rfl dL_report_6 ?_
  refine z_callVx (as := [.int (p0), .int (p1), .int (p2)]) h ko_X7_report kl_L_23 rfl (zl_a rfl rfl) rfl rfl ⟨by decide, by decide, by decide, by decide⟩ (by decide) rfl dL_report_7 ?_
  refine zX_catch (hp := 23) (i := 5) (ls1 := [.ref (1), .int (p0), .int (p1), .int (p2), .ref (145), .null]) [(0, 12, 15, 13), (0, 12, 19, 15)] (0, 12, 23, 17) [] rfl (List.forall_mem_cons.mpr ⟨⟨by decide, "java/lang/IndexOutOfBoundsException", zG_in 215 (by decide +kernel) rfl, by decide⟩, (List.forall_mem_cons.mpr ⟨⟨by decide, "java/lang/IllegalArgumentException", zG_in 216 (by decide +kernel) rfl, by decide⟩, (fun _ h => by cases h)⟩)⟩) (by decide) rfl (by decide) (zG_in 217 (by decide +kernel) rfl) (by decide) (by decide) rfl dL_report_23 ?_
  refine z_iconst (nI 3) (by decide) dL_report_25 ?_
  exact z_iret (rfl) rfl (znarI _) (by decide) (by decide) dL_report_26
set_option maxRecDepth 100000 in
set_option maxHeartbeats 4000000 in
theorem w_chart {E : Nat × (Nat → Int32)} {μ : Nat → Nat → Int32} {g : Int64} {p0 p1 : Int32} {v : Int32} {μ1 : zMu} (h : zCt E kX7_chart [.ref (1), .int (p0), .int (p1)] (zm μ g) (.inl (some (.int v)), zm μ1 g)) : zCt E kL_chart [.ref (1), .int (p0), .int (p1), .ref (145)] (zm μ g) (.inl (some (.int (nI 0))), zm μ1 v.toInt64) := by
  refine zCt_of ko_L_chart (Nat.le_of_ble_eq_true rfl) (zas_r (zas_i (zas_i (zas_r zas_0)))) ⟨Nat.le_refl _, fun h => absurd h (Nat.lt_irrefl _)⟩ (Nat.le_of_ble_eq_true rfl) ?_
  show zV false E kL_chart 145 _ 0 [.ref (1), .int (p0), .int (p1), .ref (145), .null] [] (zm μ g) 0 0
  refine z_aload_n rfl rfl dL_chart_0 ?_
  refine z_iconst (nI 0) (by decide) dL_chart_1 ?_
  refine z_aload_n rfl rfl dL_chart_2 ?_
  refine z_iload_n rfl rfl dL_chart_3 ?_
  refine z_iload_n rfl rfl dL_chart_4 ?_
  refine z_callV (as := [.int (p0), .int (p1)]) h ko_X7_chart kl_L_27 rfl (zl_a rfl rfl) rfl rfl ⟨by decide, by decide, by decide, by decide⟩ (Nat.le_of_ble_eq_true rfl) rfl dL_chart_5 ?_
  refine z_i2l dL_chart_8 ?_
  refine z_last (zl_a rfl rfl) zκ_one rfl dL_chart_9 ?_
  refine z_goto 21 (by decide) dL_chart_10 ?_
  refine z_iconst (nI 0) (by decide) dL_chart_21 ?_
  exact z_iret (rfl) rfl (znarI _) (by decide) (by decide) dL_chart_22
set_option maxRecDepth 100000 in
set_option maxHeartbeats 4000000 in
theorem wA_chart {E : Nat × (Nat → Int32)} {μ : Nat → Nat → Int32} {g : Int64} {p0 p1 : Int32} (h : zCt E kX7_chart [.ref (1), .int (p0), .int (p1)] (zm μ g) (.inr xA, zm μ g)) : zCt E kL_chart [.ref (1), .int (p0), .int (p1), .ref (145)] (zm μ g) (.inl (some (.int (nI 1))), zm μ g) := by
  refine zCt_of ko_L_chart (Nat.le_of_ble_eq_true rfl) (zas_r (zas_i (zas_i (zas_r zas_0)))) ⟨Nat.le_refl _, fun h => absurd h (Nat.lt_irrefl _)⟩ (Nat.le_of_ble_eq_true rfl) ?_
  show zV false E kL_chart 145 _ 0 [.ref (1), .int (p0), .int (p1), .ref (145), .null] [] (zm μ g) 0 0
  refine z_aload_n rfl rfl dL_chart_0 ?_
  refine z_iconst (nI 0) (by decide) dL_chart_1 ?_
  refine z_aload_n rfl rfl dL_chart_2 ?_
  refine z_iload_n rfl rfl dL_chart_3 ?_
  refine z_iload_n rfl rfl dL_chart_4 ?_
  refine z_callVx (as := [.int (p0), .int (p1)]) h ko_X7_chart kl_L_27 rfl (zl_a rfl rfl) rfl rfl ⟨by decide, by decide, by decide, by decide⟩ (by decide) rfl dL_chart_5 ?_
  refine zX_catch (hp := 13) (i := 4) (ls1 := [.ref (1), .int (p0), .int (p1), .ref (145), .null]) [] (0, 10, 13, 15) [(0, 10, 17, 17)] rfl (fun _ h => by cases h) (by decide) rfl (by decide) (zG_in 216 (by decide +kernel) rfl) (by decide) (by decide) rfl dL_chart_13 ?_
  refine z_iconst (nI 1) (by decide) dL_chart_15 ?_
  exact z_iret (rfl) rfl (znarI _) (by decide) (by decide) dL_chart_16
set_option maxRecDepth 100000 in
set_option maxHeartbeats 4000000 in
theorem wS_chart {E : Nat × (Nat → Int32)} {μ : Nat → Nat → Int32} {g : Int64} {p0 p1 : Int32} (h : zCt E kX7_chart [.ref (1), .int (p0), .int (p1)] (zm μ g) (.inr xS, zm μ g)) : zCt E kL_chart [.ref (1), .int (p0), .int (p1), .ref (145)] (zm μ g) (.inl (some (.int (nI 2))), zm μ g) := by
  refine zCt_of ko_L_chart (Nat.le_of_ble_eq_true rfl) (zas_r (zas_i (zas_i (zas_r zas_0)))) ⟨Nat.le_refl _, fun h => absurd h (Nat.lt_irrefl _)⟩ (Nat.le_of_ble_eq_true rfl) ?_
  show zV false E kL_chart 145 _ 0 [.ref (1), .int (p0), .int (p1), .ref (145), .null] [] (zm μ g) 0 0
  refine z_aload_n rfl rfl dL_chart_0 ?_
  refine z_iconst (nI 0) (by decide) dL_chart_1 ?_
  refine z_aload_n rfl rfl dL_chart_2 ?_
  refine z_iload_n rfl rfl dL_chart_3 ?_
  refine z_iload_n rfl rfl dL_chart_4 ?_
  refine z_callVx (as := [.int (p0), .int (p1)]) h ko_X7_chart kl_L_27 rfl (zl_a rfl rfl) rfl rfl ⟨by decide, by decide, by decide, by decide⟩ (by decide) rfl dL_chart_5 ?_
  refine zX_catch (hp := 17) (i := 4) (ls1 := [.ref (1), .int (p0), .int (p1), .ref (145), .null]) [(0, 10, 13, 15)] (0, 10, 17, 17) [] rfl (List.forall_mem_cons.mpr ⟨⟨by decide, "java/lang/IllegalArgumentException", zG_in 216 (by decide +kernel) rfl, by decide⟩, (fun _ h => by cases h)⟩) (by decide) rfl (by decide) (zG_in 217 (by decide +kernel) rfl) (by decide) (by decide) rfl dL_chart_17 ?_
  refine z_iconst (nI 2) (by decide) dL_chart_19 ?_
  exact z_iret (rfl) rfl (znarI _) (by decide) (by decide) dL_chart_20
set_option maxRecDepth 100000 in
set_option maxHeartbeats 4000000 in
theorem w_hand {E : Nat × (Nat → Int32)} {μ : Nat → Nat → Int32} {g : Int64} {p0 p1 : Int32} {v : Int32} {μ1 : zMu} (h : zCt E kX7_hand [.ref (1), .int (p0), .int (p1)] (zm μ g) (.inl (some (.int v)), zm μ1 g)) : zCt E kL_hand [.ref (1), .int (p0), .int (p1), .ref (145)] (zm μ g) (.inl (some (.int (nI 0))), zm μ1 v.toInt64) := by
  refine zCt_of ko_L_hand (Nat.le_of_ble_eq_true rfl) (zas_r (zas_i (zas_i (zas_r zas_0)))) ⟨Nat.le_refl _, fun h => absurd h (Nat.lt_irrefl _)⟩ (Nat.le_of_ble_eq_true rfl) ?_
  show zV false E kL_hand 145 _ 0 [.ref (1), .int (p0), .int (p1), .ref (145), .null] [] (zm μ g) 0 0
  refine z_aload_n rfl rfl dL_hand_0 ?_
  refine z_iconst (nI 0) (by decide) dL_hand_1 ?_
  refine z_aload_n rfl rfl dL_hand_2 ?_
  refine z_iload_n rfl rfl dL_hand_3 ?_
  refine z_iload_n rfl rfl dL_hand_4 ?_
  refine z_callV (as := [.int (p0), .int (p1)]) h ko_X7_hand kl_L_30 rfl (zl_a rfl rfl) rfl rfl ⟨by decide, by decide, by decide, by decide⟩ (Nat.le_of_ble_eq_true rfl) rfl dL_hand_5 ?_
  refine z_i2l dL_hand_8 ?_
  refine z_last (zl_a rfl rfl) zκ_one rfl dL_hand_9 ?_
  refine z_goto 21 (by decide) dL_hand_10 ?_
  refine z_iconst (nI 0) (by decide) dL_hand_21 ?_
  exact z_iret (rfl) rfl (znarI _) (by decide) (by decide) dL_hand_22
set_option maxRecDepth 100000 in
set_option maxHeartbeats 4000000 in
theorem wI_hand {E : Nat × (Nat → Int32)} {μ : Nat → Nat → Int32} {g : Int64} {p0 p1 : Int32} (h : zCt E kX7_hand [.ref (1), .int (p0), .int (p1)] (zm μ g) (.inr xI, zm μ g)) : zCt E kL_hand [.ref (1), .int (p0), .int (p1), .ref (145)] (zm μ g) (.inl (some (.int (nI 1))), zm μ g) := by
  refine zCt_of ko_L_hand (Nat.le_of_ble_eq_true rfl) (zas_r (zas_i (zas_i (zas_r zas_0)))) ⟨Nat.le_refl _, fun h => absurd h (Nat.lt_irrefl _)⟩ (Nat.le_of_ble_eq_true rfl) ?_
  show zV false E kL_hand 145 _ 0 [.ref (1), .int (p0), .int (p1), .ref (145), .null] [] (zm μ g) 0 0
  refine z_aload_n rfl rfl dL_hand_0 ?_
  refine z_iconst (nI 0) (by decide) dL_hand_1 ?_
  refine z_aload_n rfl rfl dL_hand_2 ?_
  refine z_iload_n rfl rfl dL_hand_3 ?_
  refine z_iload_n rfl rfl dL_hand_4 ?_
  refine z_callVx (as := [.int (p0), .int (p1)]) h ko_X7_hand kl_L_30 rfl (zl_a rfl rfl) rfl rfl ⟨by decide, by decide, by decide, by decide⟩ (by decide) rfl dL_hand_5 ?_
  refine zX_catch (hp := 13) (i := 4) (ls1 := [.ref (1), .int (p0), .int (p1), .ref (145), .null]) [] (0, 10, 13, 13) [(0, 10, 17, 15)] rfl (fun _ h => by cases h) (by decide) rfl (by decide) (zG_in 215 (by decide +kernel) rfl) (by decide) (by decide) rfl dL_hand_13 ?_
  refine z_iconst (nI 1) (by decide) dL_hand_15 ?_
  exact z_iret (rfl) rfl (znarI _) (by decide) (by decide) dL_hand_16
set_option maxRecDepth 100000 in
set_option maxHeartbeats 4000000 in
theorem wA_hand {E : Nat × (Nat → Int32)} {μ : Nat → Nat → Int32} {g : Int64} {p0 p1 : Int32} (h : zCt E kX7_hand [.ref (1), .int (p0), .int (p1)] (zm μ g) (.inr xA, zm μ g)) : zCt E kL_hand [.ref (1), .int (p0), .int (p1), .ref (145)] (zm μ g) (.inl (some (.int (nI 2))), zm μ g) := by
  refine zCt_of ko_L_hand (Nat.le_of_ble_eq_true rfl) (zas_r (zas_i (zas_i (zas_r zas_0)))) ⟨Nat.le_refl _, fun h => absurd h (Nat.lt_irrefl _)⟩ (Nat.le_of_ble_eq_true rfl) ?_
  show zV false E kL_hand 145 _ 0 [.ref (1), .int (p0), .int (p1), .ref (145), .null] [] (zm μ g) 0 0
  refine z_aload_n rfl rfl dL_hand_0 ?_
  refine z_iconst (nI 0) (by decide) dL_hand_1 ?_
  refine z_aload_n rfl rfl dL_hand_2 ?_
  refine z_iload_n rfl rfl dL_hand_3 ?_
  refine z_iload_n rfl rfl dL_hand_4 ?_
  refine z_callVx (as := [.int (p0), .int (p1)]) h ko_X7_hand kl_L_30 rfl (zl_a rfl rfl) rfl rfl ⟨by decide, by decide, by decide, by decide⟩ (by decide) rfl dL_hand_5 ?_
  refine zX_catch (hp := 17) (i := 4) (ls1 := [.ref (1), .int (p0), .int (p1), .ref (145), .null]) [(0, 10, 13, 13)] (0, 10, 17, 15) [] rfl (List.forall_mem_cons.mpr ⟨⟨by decide, "java/lang/IndexOutOfBoundsException", zG_in 215 (by decide +kernel) rfl, by decide⟩, (fun _ h => by cases h)⟩) (by decide) rfl (by decide) (zG_in 216 (by decide +kernel) rfl) (by decide) (by decide) rfl dL_hand_17 ?_
  refine z_iconst (nI 2) (by decide) dL_hand_19 ?_
  exact z_iret (rfl) rfl (znarI _) (by decide) (by decide) dL_hand_20
set_option maxRecDepth 100000 in
set_option maxHeartbeats 4000000 in
theorem w_reads {E : Nat × (Nat → Int32)} {μ : Nat → Nat → Int32} {g : Int64} {p0 p1 p2 : Int32} {μ1 : zMu} (h : zCt E kX7_reads [.ref (1), .int (p0), .int (p1), .int (p2)] (zm μ g) (.inl (none), zm μ1 g)) : zCt E kL_reads [.ref (1), .int (p0), .int (p1), .int (p2)] (zm μ g) (.inl (some (.int (nI 0))), zm μ1 g) := by
  refine zCt_of ko_L_reads (Nat.le_of_ble_eq_true rfl) (zas_r (zas_i (zas_i (zas_i zas_0)))) ⟨Nat.le_refl _, fun h => absurd h (Nat.lt_irrefl _)⟩ (Nat.le_of_ble_eq_true rfl) ?_
  show zV false E kL_reads 145 _ 0 [.ref (1), .int (p0), .int (p1), .int (p2), .null] [] (zm μ g) 0 0
  refine z_aload_n rfl rfl dL_reads_0 ?_
  refine z_iload_n rfl rfl dL_reads_1 ?_
  refine z_iload_n rfl rfl dL_reads_2 ?_
  refine z_iload_n rfl rfl dL_reads_3 ?_
  refine z_callV (as := [.int (p0), .int (p1), .int (p2)]) h ko_X7_reads kl_L_33 rfl (zl_a rfl rfl) rfl rfl ⟨by decide, by decide, by decide, by decide⟩ (Nat.le_of_ble_eq_true rfl) rfl dL_reads_4 ?_
  refine z_goto 18 (by decide) dL_reads_7 ?_
  refine z_iconst (nI 0) (by decide) dL_reads_18 ?_
  exact z_iret (rfl) rfl (znarI _) (by decide) (by decide) dL_reads_19
set_option maxRecDepth 100000 in
set_option maxHeartbeats 4000000 in
theorem wI_reads {E : Nat × (Nat → Int32)} {μ : Nat → Nat → Int32} {g : Int64} {p0 p1 p2 : Int32} (h : zCt E kX7_reads [.ref (1), .int (p0), .int (p1), .int (p2)] (zm μ g) (.inr xI, zm μ g)) : zCt E kL_reads [.ref (1), .int (p0), .int (p1), .int (p2)] (zm μ g) (.inl (some (.int (nI 1))), zm μ g) := by
  refine zCt_of ko_L_reads (Nat.le_of_ble_eq_true rfl) (zas_r (zas_i (zas_i (zas_i zas_0)))) ⟨Nat.le_refl _, fun h => absurd h (Nat.lt_irrefl _)⟩ (Nat.le_of_ble_eq_true rfl) ?_
  show zV false E kL_reads 145 _ 0 [.ref (1), .int (p0), .int (p1), .int (p2), .null] [] (zm μ g) 0 0
  refine z_aload_n rfl rfl dL_reads_0 ?_
  refine z_iload_n rfl rfl dL_reads_1 ?_
  refine z_iload_n rfl rfl dL_reads_2 ?_
  refine z_iload_n rfl rfl dL_reads_3 ?_
  refine z_callVx (as := [.int (p0), .int (p1), .int (p2)]) h ko_X7_reads kl_L_33 rfl (zl_a rfl rfl) rfl rfl ⟨by decide, by decide, by decide, by decide⟩ (by decide) rfl dL_reads_4 ?_
  refine zX_catch (hp := 10) (i := 4) (ls1 := [.ref (1), .int (p0), .int (p1), .int (p2), .null]) [] (0, 7, 10, 13) [(0, 7, 14, 15)] rfl (fun _ h => by cases h) (by decide) rfl (by decide) (zG_in 215 (by decide +kernel) rfl) (by decide) (by decide) rfl dL_reads_10 ?_
  refine z_iconst (nI 1) (by decide) dL_reads_12 ?_
  exact z_iret (rfl) rfl (znarI _) (by decide) (by decide) dL_reads_13
set_option maxRecDepth 100000 in
set_option maxHeartbeats 4000000 in
theorem wA_reads {E : Nat × (Nat → Int32)} {μ : Nat → Nat → Int32} {g : Int64} {p0 p1 p2 : Int32} (h : zCt E kX7_reads [.ref (1), .int (p0), .int (p1), .int (p2)] (zm μ g) (.inr xA, zm μ g)) : zCt E kL_reads [.ref (1), .int (p0), .int (p1), .int (p2)] (zm μ g) (.inl (some (.int (nI 2))), zm μ g) := by
  refine zCt_of ko_L_reads (Nat.le_of_ble_eq_true rfl) (zas_r (zas_i (zas_i (zas_i zas_0)))) ⟨Nat.le_refl _, fun h => absurd h (Nat.lt_irrefl _)⟩ (Nat.le_of_ble_eq_true rfl) ?_
  show zV false E kL_reads 145 _ 0 [.ref (1), .int (p0), .int (p1), .int (p2), .null] [] (zm μ g) 0 0
  refine z_aload_n rfl rfl dL_reads_0 ?_
  refine z_iload_n rfl rfl dL_reads_1 ?_
  refine z_iload_n rfl rfl dL_reads_2 ?_
  refine z_iload_n rfl rfl dL_reads_3 ?_
  refine z_callVx (as := [.int (p0), .int (p1), .int (p2)]) h ko_X7_reads kl_L_33 rfl (zl_a rfl rfl) rfl rfl ⟨by decide, by decide, by decide, by decide⟩ (by decide) rfl dL_reads_4 ?_
  refine zX_catch (hp := 14) (i := 4) (ls1 := [.ref (1), .int (p0), .int (p1), .int (p2), .null]) [(0, 7, 10, 13)] (0, 7, 14, 15) [] rfl (List.forall_mem_cons.mpr ⟨⟨by decide, "java/lang/IndexOutOfBoundsException", zG_in 215 (by decide +kernel) rfl, by decide⟩, (fun _ h => by cases h)⟩) (by decide) rfl (by decide) (zG_in 216 (by decide +kernel) rfl) (by decide) (by decide) rfl dL_reads_14 ?_
  refine z_iconst (nI 2) (by decide) dL_reads_16 ?_
  exact z_iret (rfl) rfl (znarI _) (by decide) (by decide) dL_reads_17
set_option maxRecDepth 100000 in
set_option maxHeartbeats 4000000 in
theorem w_copy {E : Nat × (Nat → Int32)} {μ : Nat → Nat → Int32} {g : Int64} {p0 p1 p2 p3 : Int32} {v : Int32} {μ1 : zMu} (h : zCt E kX7_copy [.ref (1), .int (p0), .int (p1), .int (p2), .int (p3)] (zm μ g) (.inl (some (.int v)), zm μ1 g)) : zCt E kL_copy [.ref (1), .int (p0), .int (p1), .int (p2), .int (p3), .ref (145)] (zm μ g) (.inl (some (.int (nI 0))), zm μ1 v.toInt64) := by
  refine zCt_of ko_L_copy (Nat.le_of_ble_eq_true rfl) (zas_r (zas_i (zas_i (zas_i (zas_i (zas_r zas_0)))))) ⟨Nat.le_refl _, fun h => absurd h (Nat.lt_irrefl _)⟩ (Nat.le_of_ble_eq_true rfl) ?_
  show zV false E kL_copy 145 _ 0 [.ref (1), .int (p0), .int (p1), .int (p2), .int (p3), .ref (145), .null] [] (zm μ g) 0 0
  refine z_aload rfl dL_copy_0 ?_
  refine z_iconst (nI 0) (by decide) dL_copy_2 ?_
  refine z_aload_n rfl rfl dL_copy_3 ?_
  refine z_iload_n rfl rfl dL_copy_4 ?_
  refine z_iload_n rfl rfl dL_copy_5 ?_
  refine z_iload_n rfl rfl dL_copy_6 ?_
  refine z_iload rfl dL_copy_7 ?_
  refine z_callV (as := [.int (p0), .int (p1), .int (p2), .int (p3)]) h ko_X7_copy kl_L_37 rfl (zl_a rfl rfl) rfl rfl ⟨by decide, by decide, by decide, by decide⟩ (Nat.le_of_ble_eq_true rfl) rfl dL_copy_9 ?_
  refine z_i2l dL_copy_12 ?_
  refine z_last (zl_a rfl rfl) zκ_one rfl dL_copy_13 ?_
  refine z_goto 29 (by decide) dL_copy_14 ?_
  refine z_iconst (nI 0) (by decide) dL_copy_29 ?_
  exact z_iret (rfl) rfl (znarI _) (by decide) (by decide) dL_copy_30
set_option maxRecDepth 100000 in
set_option maxHeartbeats 4000000 in
theorem wI_copy {E : Nat × (Nat → Int32)} {μ : Nat → Nat → Int32} {g : Int64} {p0 p1 p2 p3 : Int32} (h : zCt E kX7_copy [.ref (1), .int (p0), .int (p1), .int (p2), .int (p3)] (zm μ g) (.inr xI, zm μ g)) : zCt E kL_copy [.ref (1), .int (p0), .int (p1), .int (p2), .int (p3), .ref (145)] (zm μ g) (.inl (some (.int (nI 1))), zm μ g) := by
  refine zCt_of ko_L_copy (Nat.le_of_ble_eq_true rfl) (zas_r (zas_i (zas_i (zas_i (zas_i (zas_r zas_0)))))) ⟨Nat.le_refl _, fun h => absurd h (Nat.lt_irrefl _)⟩ (Nat.le_of_ble_eq_true rfl) ?_
  show zV false E kL_copy 145 _ 0 [.ref (1), .int (p0), .int (p1), .int (p2), .int (p3), .ref (145), .null] [] (zm μ g) 0 0
  refine z_aload rfl dL_copy_0 ?_
  refine z_iconst (nI 0) (by decide) dL_copy_2 ?_
  refine z_aload_n rfl rfl dL_copy_3 ?_
  refine z_iload_n rfl rfl dL_copy_4 ?_
  refine z_iload_n rfl rfl dL_copy_5 ?_
  refine z_iload_n rfl rfl dL_copy_6 ?_
  refine z_iload rfl dL_copy_7 ?_
  refine z_callVx (as := [.int (p0), .int (p1), .int (p2), .int (p3)]) h ko_X7_copy kl_L_37 rfl (zl_a rfl rfl) rfl rfl ⟨by decide, by decide, by decide, by decide⟩ (by decide) rfl dL_copy_9 ?_
  refine zX_catch (hp := 17) (i := 6) (ls1 := [.ref (1), .int (p0), .int (p1), .int (p2), .int (p3), .ref (145), .null]) [] (0, 14, 17, 13) [(0, 14, 21, 15), (0, 14, 25, 17)] rfl (fun _ h => by cases h) (by decide) rfl (by decide) (zG_in 215 (by decide +kernel) rfl) (by decide) (by decide) rfl dL_copy_17 ?_
  refine z_iconst (nI 1) (by decide) dL_copy_19 ?_
  exact z_iret (rfl) rfl (znarI _) (by decide) (by decide) dL_copy_20
set_option maxRecDepth 100000 in
set_option maxHeartbeats 4000000 in
theorem wA_copy {E : Nat × (Nat → Int32)} {μ : Nat → Nat → Int32} {g : Int64} {p0 p1 p2 p3 : Int32} (h : zCt E kX7_copy [.ref (1), .int (p0), .int (p1), .int (p2), .int (p3)] (zm μ g) (.inr xA, zm μ g)) : zCt E kL_copy [.ref (1), .int (p0), .int (p1), .int (p2), .int (p3), .ref (145)] (zm μ g) (.inl (some (.int (nI 2))), zm μ g) := by
  refine zCt_of ko_L_copy (Nat.le_of_ble_eq_true rfl) (zas_r (zas_i (zas_i (zas_i (zas_i (zas_r zas_0)))))) ⟨Nat.le_refl _, fun h => absurd h (Nat.lt_irrefl _)⟩ (Nat.le_of_ble_eq_true rfl) ?_
  show zV false E kL_copy 145 _ 0 [.ref (1), .int (p0), .int (p1), .int (p2), .int (p3), .ref (145), .null] [] (zm μ g) 0 0
  refine z_aload rfl dL_copy_0 ?_
  refine z_iconst (nI 0) (by decide) dL_copy_2 ?_
  refine z_aload_n rfl rfl dL_copy_3 ?_
  refine z_iload_n rfl rfl dL_copy_4 ?_
  refine z_iload_n rfl rfl dL_copy_5 ?_
  refine z_iload_n rfl rfl dL_copy_6 ?_
  refine z_iload rfl dL_copy_7 ?_
  refine z_callVx (as := [.int (p0), .int (p1), .int (p2), .int (p3)]) h ko_X7_copy kl_L_37 rfl (zl_a rfl rfl) rfl rfl ⟨by decide, by decide, by decide, by decide⟩ (by decide) rfl dL_copy_9 ?_
  refine zX_catch (hp := 21) (i := 6) (ls1 := [.ref (1), .int (p0), .int (p1), .int (p2), .int (p3), .ref (145), .null]) [(0, 14, 17, 13)] (0, 14, 21, 15) [(0, 14, 25, 17)] rfl (List.forall_mem_cons.mpr ⟨⟨by decide, "java/lang/IndexOutOfBoundsException", zG_in 215 (by decide +kernel) rfl, by decide⟩, (fun _ h => by cases h)⟩) (by decide) rfl (by decide) (zG_in 216 (by decide +kernel) rfl) (by decide) (by decide) rfl dL_copy_21 ?_
  refine z_iconst (nI 2) (by decide) dL_copy_23 ?_
  exact z_iret (rfl) rfl (znarI _) (by decide) (by decide) dL_copy_24
set_option maxRecDepth 100000 in
set_option maxHeartbeats 4000000 in
theorem wS_copy {E : Nat × (Nat → Int32)} {μ : Nat → Nat → Int32} {g : Int64} {p0 p1 p2 p3 : Int32} (h : zCt E kX7_copy [.ref (1), .int (p0), .int (p1), .int (p2), .int (p3)] (zm μ g) (.inr xS, zm μ g)) : zCt E kL_copy [.ref (1), .int (p0), .int (p1), .int (p2), .int (p3), .ref (145)] (zm μ g) (.inl (some (.int (nI 3))), zm μ g) := by
  refine zCt_of ko_L_copy (Nat.le_of_ble_eq_true rfl) (zas_r (zas_i (zas_i (zas_i (zas_i (zas_r zas_0)))))) ⟨Nat.le_refl _, fun h => absurd h (Nat.lt_irrefl _)⟩ (Nat.le_of_ble_eq_true rfl) ?_
  show zV false E kL_copy 145 _ 0 [.ref (1), .int (p0), .int (p1), .int (p2), .int (p3), .ref (145), .null] [] (zm μ g) 0 0
  refine z_aload rfl dL_copy_0 ?_
  refine z_iconst (nI 0) (by decide) dL_copy_2 ?_
  refine z_aload_n rfl rfl dL_copy_3 ?_
  refine z_iload_n rfl rfl dL_copy_4 ?_
  refine z_iload_n rfl rfl dL_copy_5 ?_
  refine z_iload_n rfl rfl dL_copy_6 ?_
  refine z_iload rfl dL_copy_7 ?_
  refine z_callVx (as := [.int (p0), .int (p1), .int (p2), .int (p3)]) h ko_X7_copy kl_L_37 rfl (zl_a rfl rfl) rfl rfl ⟨by decide, by decide, by decide, by decide⟩ (by decide) rfl dL_copy_9 ?_
  refine zX_catch (hp := 25) (i := 6) (ls1 := [.ref (1), .int (p0), .int (p1), .int (p2), .int (p3), .ref (145), .null]) [(0, 14, 17, 13), (0, 14, 21, 15)] (0, 14, 25, 17) [] rfl (List.forall_mem_cons.mpr ⟨⟨by decide, "java/lang/IndexOutOfBoundsException", zG_in 215 (by decide +kernel) rfl, by decide⟩, (List.forall_mem_cons.mpr ⟨⟨by decide, "java/lang/IllegalArgumentException", zG_in 216 (by decide +kernel) rfl, by decide⟩, (fun _ h => by cases h)⟩)⟩) (by decide) rfl (by decide) (zG_in 217 (by decide +kernel) rfl) (by decide) (by decide) rfl dL_copy_25 ?_
  refine z_iconst (nI 3) (by decide) dL_copy_27 ?_
  exact z_iret (rfl) rfl (znarI _) (by decide) (by decide) dL_copy_28
set_option maxRecDepth 100000 in
set_option maxHeartbeats 4000000 in
theorem w_paste {E : Nat × (Nat → Int32)} {μ : Nat → Nat → Int32} {g : Int64} {p0 p1 p2 p3 : Int32} {v : Int32} {μ1 : zMu} (h : zCt E kX7_paste [.ref (1), .int (p0), .int (p1), .int (p2), .int (p3)] (zm μ g) (.inl (some (.int v)), zm μ1 g)) : zCt E kL_paste [.ref (1), .int (p0), .int (p1), .int (p2), .int (p3), .ref (145)] (zm μ g) (.inl (some (.int (nI 0))), zm μ1 v.toInt64) := by
  refine zCt_of ko_L_paste (Nat.le_of_ble_eq_true rfl) (zas_r (zas_i (zas_i (zas_i (zas_i (zas_r zas_0)))))) ⟨Nat.le_refl _, fun h => absurd h (Nat.lt_irrefl _)⟩ (Nat.le_of_ble_eq_true rfl) ?_
  show zV false E kL_paste 145 _ 0 [.ref (1), .int (p0), .int (p1), .int (p2), .int (p3), .ref (145), .null] [] (zm μ g) 0 0
  refine z_aload rfl dL_paste_0 ?_
  refine z_iconst (nI 0) (by decide) dL_paste_2 ?_
  refine z_aload_n rfl rfl dL_paste_3 ?_
  refine z_iload_n rfl rfl dL_paste_4 ?_
  refine z_iload_n rfl rfl dL_paste_5 ?_
  refine z_iload_n rfl rfl dL_paste_6 ?_
  refine z_iload rfl dL_paste_7 ?_
  refine z_callV (as := [.int (p0), .int (p1), .int (p2), .int (p3)]) h ko_X7_paste kl_L_41 rfl (zl_a rfl rfl) rfl rfl ⟨by decide, by decide, by decide, by decide⟩ (Nat.le_of_ble_eq_true rfl) rfl dL_paste_9 ?_
  refine z_i2l dL_paste_12 ?_
  refine z_last (zl_a rfl rfl) zκ_one rfl dL_paste_13 ?_
  refine z_goto 29 (by decide) dL_paste_14 ?_
  refine z_iconst (nI 0) (by decide) dL_paste_29 ?_
  exact z_iret (rfl) rfl (znarI _) (by decide) (by decide) dL_paste_30
set_option maxRecDepth 100000 in
set_option maxHeartbeats 4000000 in
theorem wI_paste {E : Nat × (Nat → Int32)} {μ : Nat → Nat → Int32} {g : Int64} {p0 p1 p2 p3 : Int32} (h : zCt E kX7_paste [.ref (1), .int (p0), .int (p1), .int (p2), .int (p3)] (zm μ g) (.inr xI, zm μ g)) : zCt E kL_paste [.ref (1), .int (p0), .int (p1), .int (p2), .int (p3), .ref (145)] (zm μ g) (.inl (some (.int (nI 1))), zm μ g) := by
  refine zCt_of ko_L_paste (Nat.le_of_ble_eq_true rfl) (zas_r (zas_i (zas_i (zas_i (zas_i (zas_r zas_0)))))) ⟨Nat.le_refl _, fun h => absurd h (Nat.lt_irrefl _)⟩ (Nat.le_of_ble_eq_true rfl) ?_
  show zV false E kL_paste 145 _ 0 [.ref (1), .int (p0), .int (p1), .int (p2), .int (p3), .ref (145), .null] [] (zm μ g) 0 0
  refine z_aload rfl dL_paste_0 ?_
  refine z_iconst (nI 0) (by decide) dL_paste_2 ?_
  refine z_aload_n rfl rfl dL_paste_3 ?_
  refine z_iload_n rfl rfl dL_paste_4 ?_
  refine z_iload_n rfl rfl dL_paste_5 ?_
  refine z_iload_n rfl rfl dL_paste_6 ?_
  refine z_iload rfl dL_paste_7 ?_
  refine z_callVx (as := [.int (p0), .int (p1), .int (p2), .int (p3)]) h ko_X7_paste kl_L_41 rfl (zl_a rfl rfl) rfl rfl ⟨by decide, by decide, by decide, by decide⟩ (by decide) rfl dL_paste_9 ?_
  refine zX_catch (hp := 17) (i := 6) (ls1 := [.ref (1), .int (p0), .int (p1), .int (p2), .int (p3), .ref (145), .null]) [] (0, 14, 17, 13) [(0, 14, 21, 15), (0, 14, 25, 17)] rfl (fun _ h => by cases h) (by decide) rfl (by decide) (zG_in 215 (by decide +kernel) rfl) (by decide) (by decide) rfl dL_paste_17 ?_
  refine z_iconst (nI 1) (by decide) dL_paste_19 ?_
  exact z_iret (rfl) rfl (znarI _) (by decide) (by decide) dL_paste_20
set_option maxRecDepth 100000 in
set_option maxHeartbeats 4000000 in
theorem wA_paste {E : Nat × (Nat → Int32)} {μ : Nat → Nat → Int32} {g : Int64} {p0 p1 p2 p3 : Int32} (h : zCt E kX7_paste [.ref (1), .int (p0), .int (p1), .int (p2), .int (p3)] (zm μ g) (.inr xA, zm μ g)) : zCt E kL_paste [.ref (1), .int (p0), .int (p1), .int (p2), .int (p3), .ref (145)] (zm μ g) (.inl (some (.int (nI 2))), zm μ g) := by
  refine zCt_of ko_L_paste (Nat.le_of_ble_eq_true rfl) (zas_r (zas_i (zas_i (zas_i (zas_i (zas_r zas_0)))))) ⟨Nat.le_refl _, fun h => absurd h (Nat.lt_irrefl _)⟩ (Nat.le_of_ble_eq_true rfl) ?_
  show zV false E kL_paste 145 _ 0 [.ref (1), .int (p0), .int (p1), .int (p2), .int (p3), .ref (145), .null] [] (zm μ g) 0 0
  refine z_aload rfl dL_paste_0 ?_
  refine z_iconst (nI 0) (by decide) dL_paste_2 ?_
  refine z_aload_n rfl rfl dL_paste_3 ?_
  refine z_iload_n rfl rfl dL_paste_4 ?_
  refine z_iload_n rfl rfl dL_paste_5 ?_
  refine z_iload_n rfl rfl dL_paste_6 ?_
  refine z_iload rfl dL_paste_7 ?_
  refine z_callVx (as := [.int (p0), .int (p1), .int (p2), .int (p3)]) h ko_X7_paste kl_L_41 rfl (zl_a rfl rfl) rfl rfl ⟨by decide, by decide, by decide, by decide⟩ (by decide) rfl dL_paste_9 ?_
  refine zX_catch (hp := 21) (i := 6) (ls1 := [.ref (1), .int (p0), .int (p1), .int (p2), .int (p3), .ref (145), .null]) [(0, 14, 17, 13)] (0, 14, 21, 15) [(0, 14, 25, 17)] rfl (List.forall_mem_cons.mpr ⟨⟨by decide, "java/lang/IndexOutOfBoundsException", zG_in 215 (by decide +kernel) rfl, by decide⟩, (fun _ h => by cases h)⟩) (by decide) rfl (by decide) (zG_in 216 (by decide +kernel) rfl) (by decide) (by decide) rfl dL_paste_21 ?_
  refine z_iconst (nI 2) (by decide) dL_paste_23 ?_
  exact z_iret (rfl) rfl (znarI _) (by decide) (by decide) dL_paste_24
set_option maxRecDepth 100000 in
set_option maxHeartbeats 4000000 in
theorem wS_paste {E : Nat × (Nat → Int32)} {μ : Nat → Nat → Int32} {g : Int64} {p0 p1 p2 p3 : Int32} (h : zCt E kX7_paste [.ref (1), .int (p0), .int (p1), .int (p2), .int (p3)] (zm μ g) (.inr xS, zm μ g)) : zCt E kL_paste [.ref (1), .int (p0), .int (p1), .int (p2), .int (p3), .ref (145)] (zm μ g) (.inl (some (.int (nI 3))), zm μ g) := by
  refine zCt_of ko_L_paste (Nat.le_of_ble_eq_true rfl) (zas_r (zas_i (zas_i (zas_i (zas_i (zas_r zas_0)))))) ⟨Nat.le_refl _, fun h => absurd h (Nat.lt_irrefl _)⟩ (Nat.le_of_ble_eq_true rfl) ?_
  show zV false E kL_paste 145 _ 0 [.ref (1), .int (p0), .int (p1), .int (p2), .int (p3), .ref (145), .null] [] (zm μ g) 0 0
  refine z_aload rfl dL_paste_0 ?_
  refine z_iconst (nI 0) (by decide) dL_paste_2 ?_
  refine z_aload_n rfl rfl dL_paste_3 ?_
  refine z_iload_n rfl rfl dL_paste_4 ?_
  refine z_iload_n rfl rfl dL_paste_5 ?_
  refine z_iload_n rfl rfl dL_paste_6 ?_
  refine z_iload rfl dL_paste_7 ?_
  refine z_callVx (as := [.int (p0), .int (p1), .int (p2), .int (p3)]) h ko_X7_paste kl_L_41 rfl (zl_a rfl rfl) rfl rfl ⟨by decide, by decide, by decide, by decide⟩ (by decide) rfl dL_paste_9 ?_
  refine zX_catch (hp := 25) (i := 6) (ls1 := [.ref (1), .int (p0), .int (p1), .int (p2), .int (p3), .ref (145), .null]) [(0, 14, 17, 13), (0, 14, 21, 15)] (0, 14, 25, 17) [] rfl (List.forall_mem_cons.mpr ⟨⟨by decide, "java/lang/IndexOutOfBoundsException", zG_in 215 (by decide +kernel) rfl, by decide⟩, (List.forall_mem_cons.mpr ⟨⟨by decide, "java/lang/IllegalArgumentException", zG_in 216 (by decide +kernel) rfl, by decide⟩, (fun _ h => by cases h)⟩)⟩) (by decide) rfl (by decide) (zG_in 217 (by decide +kernel) rfl) (by decide) (by decide) rfl dL_paste_25 ?_
  refine z_iconst (nI 3) (by decide) dL_paste_27 ?_
  exact z_iret (rfl) rfl (znarI _) (by decide) (by decide) dL_paste_28
set_option maxRecDepth 100000 in
set_option maxHeartbeats 4000000 in
theorem w_island {E : Nat × (Nat → Int32)} {μ : Nat → Nat → Int32} {g : Int64} {p0 p1 p2 : Int32} {v : Int32} {μ1 : zMu} (h : zCt E kX7_island [.ref (1), .int (p0), .int (p1), .int (p2)] (zm μ g) (.inl (some (.int v)), zm μ1 g)) : zCt E kL_island [.ref (1), .int (p0), .int (p1), .int (p2), .ref (145)] (zm μ g) (.inl (some (.int (nI 0))), zm μ1 v.toInt64) := by
  refine zCt_of ko_L_island (Nat.le_of_ble_eq_true rfl) (zas_r (zas_i (zas_i (zas_i (zas_r zas_0))))) ⟨Nat.le_refl _, fun h => absurd h (Nat.lt_irrefl _)⟩ (Nat.le_of_ble_eq_true rfl) ?_
  show zV false E kL_island 145 _ 0 [.ref (1), .int (p0), .int (p1), .int (p2), .ref (145), .null] [] (zm μ g) 0 0
  refine z_aload rfl dL_island_0 ?_
  refine z_iconst (nI 0) (by decide) dL_island_2 ?_
  refine z_aload_n rfl rfl dL_island_3 ?_
  refine z_iload_n rfl rfl dL_island_4 ?_
  refine z_iload_n rfl rfl dL_island_5 ?_
  refine z_iload_n rfl rfl dL_island_6 ?_
  refine z_callV (as := [.int (p0), .int (p1), .int (p2)]) h ko_X7_island kl_L_44 rfl (zl_a rfl rfl) rfl rfl ⟨by decide, by decide, by decide, by decide⟩ (Nat.le_of_ble_eq_true rfl) rfl dL_island_7 ?_
  refine z_i2l dL_island_10 ?_
  refine z_last (zl_a rfl rfl) zκ_one rfl dL_island_11 ?_
  refine z_goto 27 (by decide) dL_island_12 ?_
  refine z_iconst (nI 0) (by decide) dL_island_27 ?_
  exact z_iret (rfl) rfl (znarI _) (by decide) (by decide) dL_island_28
set_option maxRecDepth 100000 in
set_option maxHeartbeats 4000000 in
theorem wI_island {E : Nat × (Nat → Int32)} {μ : Nat → Nat → Int32} {g : Int64} {p0 p1 p2 : Int32} (h : zCt E kX7_island [.ref (1), .int (p0), .int (p1), .int (p2)] (zm μ g) (.inr xI, zm μ g)) : zCt E kL_island [.ref (1), .int (p0), .int (p1), .int (p2), .ref (145)] (zm μ g) (.inl (some (.int (nI 1))), zm μ g) := by
  refine zCt_of ko_L_island (Nat.le_of_ble_eq_true rfl) (zas_r (zas_i (zas_i (zas_i (zas_r zas_0))))) ⟨Nat.le_refl _, fun h => absurd h (Nat.lt_irrefl _)⟩ (Nat.le_of_ble_eq_true rfl) ?_
  show zV false E kL_island 145 _ 0 [.ref (1), .int (p0), .int (p1), .int (p2), .ref (145), .null] [] (zm μ g) 0 0
  refine z_aload rfl dL_island_0 ?_
  refine z_iconst (nI 0) (by decide) dL_island_2 ?_
  refine z_aload_n rfl rfl dL_island_3 ?_
  refine z_iload_n rfl rfl dL_island_4 ?_
  refine z_iload_n rfl rfl dL_island_5 ?_
  refine z_iload_n rfl rfl dL_island_6 ?_
  refine z_callVx (as := [.int (p0), .int (p1), .int (p2)]) h ko_X7_island kl_L_44 rfl (zl_a rfl rfl) rfl rfl ⟨by decide, by decide, by decide, by decide⟩ (by decide) rfl dL_island_7 ?_
  refine zX_catch (hp := 15) (i := 5) (ls1 := [.ref (1), .int (p0), .int (p1), .int (p2), .ref (145), .null]) [] (0, 12, 15, 13) [(0, 12, 19, 15), (0, 12, 23, 17)] rfl (fun _ h => by cases h) (by decide) rfl (by decide) (zG_in 215 (by decide +kernel) rfl) (by decide) (by decide) rfl dL_island_15 ?_
  refine z_iconst (nI 1) (by decide) dL_island_17 ?_
  exact z_iret (rfl) rfl (znarI _) (by decide) (by decide) dL_island_18
set_option maxRecDepth 100000 in
set_option maxHeartbeats 4000000 in
theorem wA_island {E : Nat × (Nat → Int32)} {μ : Nat → Nat → Int32} {g : Int64} {p0 p1 p2 : Int32} (h : zCt E kX7_island [.ref (1), .int (p0), .int (p1), .int (p2)] (zm μ g) (.inr xA, zm μ g)) : zCt E kL_island [.ref (1), .int (p0), .int (p1), .int (p2), .ref (145)] (zm μ g) (.inl (some (.int (nI 2))), zm μ g) := by
  refine zCt_of ko_L_island (Nat.le_of_ble_eq_true rfl) (zas_r (zas_i (zas_i (zas_i (zas_r zas_0))))) ⟨Nat.le_refl _, fun h => absurd h (Nat.lt_irrefl _)⟩ (Nat.le_of_ble_eq_true rfl) ?_
  show zV false E kL_island 145 _ 0 [.ref (1), .int (p0), .int (p1), .int (p2), .ref (145), .null] [] (zm μ g) 0 0
  refine z_aload rfl dL_island_0 ?_
  refine z_iconst (nI 0) (by decide) dL_island_2 ?_
  refine z_aload_n rfl rfl dL_island_3 ?_
  refine z_iload_n rfl rfl dL_island_4 ?_
  refine z_iload_n rfl rfl dL_island_5 ?_
  refine z_iload_n rfl rfl dL_island_6 ?_
  refine z_callVx (as := [.int (p0), .int (p1), .int (p2)]) h ko_X7_island kl_L_44 rfl (zl_a rfl rfl) rfl rfl ⟨by decide, by decide, by decide, by decide⟩ (by decide) rfl dL_island_7 ?_
  refine zX_catch (hp := 19) (i := 5) (ls1 := [.ref (1), .int (p0), .int (p1), .int (p2), .ref (145), .null]) [(0, 12, 15, 13)] (0, 12, 19, 15) [(0, 12, 23, 17)] rfl (List.forall_mem_cons.mpr ⟨⟨by decide, "java/lang/IndexOutOfBoundsException", zG_in 215 (by decide +kernel) rfl, by decide⟩, (fun _ h => by cases h)⟩) (by decide) rfl (by decide) (zG_in 216 (by decide +kernel) rfl) (by decide) (by decide) rfl dL_island_19 ?_
  refine z_iconst (nI 2) (by decide) dL_island_21 ?_
  exact z_iret (rfl) rfl (znarI _) (by decide) (by decide) dL_island_22
set_option maxRecDepth 100000 in
set_option maxHeartbeats 4000000 in
theorem wS_island {E : Nat × (Nat → Int32)} {μ : Nat → Nat → Int32} {g : Int64} {p0 p1 p2 : Int32} (h : zCt E kX7_island [.ref (1), .int (p0), .int (p1), .int (p2)] (zm μ g) (.inr xS, zm μ g)) : zCt E kL_island [.ref (1), .int (p0), .int (p1), .int (p2), .ref (145)] (zm μ g) (.inl (some (.int (nI 3))), zm μ g) := by
  refine zCt_of ko_L_island (Nat.le_of_ble_eq_true rfl) (zas_r (zas_i (zas_i (zas_i (zas_r zas_0))))) ⟨Nat.le_refl _, fun h => absurd h (Nat.lt_irrefl _)⟩ (Nat.le_of_ble_eq_true rfl) ?_
  show zV false E kL_island 145 _ 0 [.ref (1), .int (p0), .int (p1), .int (p2), .ref (145), .null] [] (zm μ g) 0 0
  refine z_aload rfl dL_island_0 ?_
  refine z_iconst (nI 0) (by decide) dL_island_2 ?_
  refine z_aload_n rfl rfl dL_island_3 ?_
  refine z_iload_n rfl rfl dL_island_4 ?_
  refine z_iload_n rfl rfl dL_island_5 ?_
  refine z_iload_n rfl rfl dL_island_6 ?_
  refine z_callVx (as := [.int (p0), .int (p1), .int (p2)]) h ko_X7_island kl_L_44 rfl (zl_a rfl rfl) rfl rfl ⟨by decide, by decide, by decide, by decide⟩ (by decide) rfl dL_island_7 ?_
  refine zX_catch (hp := 23) (i := 5) (ls1 := [.ref (1), .int (p0), .int (p1), .int (p2), .ref (145), .null]) [(0, 12, 15, 13), (0, 12, 19, 15)] (0, 12, 23, 17) [] rfl (List.forall_mem_cons.mpr ⟨⟨by decide, "java/lang/IndexOutOfBoundsException", zG_in 215 (by decide +kernel) rfl, by decide⟩, (List.forall_mem_cons.mpr ⟨⟨by decide, "java/lang/IllegalArgumentException", zG_in 216 (by decide +kernel) rfl, by decide⟩, (fun _ h => by cases h)⟩)⟩) (by decide) rfl (by decide) (zG_in 217 (by decide +kernel) rfl) (by decide) (by decide) rfl dL_island_23 ?_
  refine z_iconst (nI 3) (by decide) dL_island_25 ?_
  exact z_iret (rfl) rfl (znarI _) (by decide) (by decide) dL_island_26
set_option maxRecDepth 100000 in
set_option maxHeartbeats 4000000 in
theorem w_exchange {E : Nat × (Nat → Int32)} {μ : Nat → Nat → Int32} {g : Int64} {p0 p1 p2 : Int32} {μ1 : zMu} (h : zCt E kX7_exchange [.ref (1), .int (p0), .int (p1), .int (p2)] (zm μ g) (.inl (none), zm μ1 g)) : zCt E kL_exchange [.ref (1), .int (p0), .int (p1), .int (p2)] (zm μ g) (.inl (some (.int (nI 0))), zm μ1 g) := by
  refine zCt_of ko_L_exchange (Nat.le_of_ble_eq_true rfl) (zas_r (zas_i (zas_i (zas_i zas_0)))) ⟨Nat.le_refl _, fun h => absurd h (Nat.lt_irrefl _)⟩ (Nat.le_of_ble_eq_true rfl) ?_
  show zV false E kL_exchange 145 _ 0 [.ref (1), .int (p0), .int (p1), .int (p2), .null] [] (zm μ g) 0 0
  refine z_aload_n rfl rfl dL_exchange_0 ?_
  refine z_iload_n rfl rfl dL_exchange_1 ?_
  refine z_iload_n rfl rfl dL_exchange_2 ?_
  refine z_iload_n rfl rfl dL_exchange_3 ?_
  refine z_callV (as := [.int (p0), .int (p1), .int (p2)]) h ko_X7_exchange kl_L_47 rfl (zl_a rfl rfl) rfl rfl ⟨by decide, by decide, by decide, by decide⟩ (Nat.le_of_ble_eq_true rfl) rfl dL_exchange_4 ?_
  refine z_goto 14 (by decide) dL_exchange_7 ?_
  refine z_iconst (nI 0) (by decide) dL_exchange_14 ?_
  exact z_iret (rfl) rfl (znarI _) (by decide) (by decide) dL_exchange_15
set_option maxRecDepth 100000 in
set_option maxHeartbeats 4000000 in
theorem wI_exchange {E : Nat × (Nat → Int32)} {μ : Nat → Nat → Int32} {g : Int64} {p0 p1 p2 : Int32} (h : zCt E kX7_exchange [.ref (1), .int (p0), .int (p1), .int (p2)] (zm μ g) (.inr xI, zm μ g)) : zCt E kL_exchange [.ref (1), .int (p0), .int (p1), .int (p2)] (zm μ g) (.inl (some (.int (nI 1))), zm μ g) := by
  refine zCt_of ko_L_exchange (Nat.le_of_ble_eq_true rfl) (zas_r (zas_i (zas_i (zas_i zas_0)))) ⟨Nat.le_refl _, fun h => absurd h (Nat.lt_irrefl _)⟩ (Nat.le_of_ble_eq_true rfl) ?_
  show zV false E kL_exchange 145 _ 0 [.ref (1), .int (p0), .int (p1), .int (p2), .null] [] (zm μ g) 0 0
  refine z_aload_n rfl rfl dL_exchange_0 ?_
  refine z_iload_n rfl rfl dL_exchange_1 ?_
  refine z_iload_n rfl rfl dL_exchange_2 ?_
  refine z_iload_n rfl rfl dL_exchange_3 ?_
  refine z_callVx (as := [.int (p0), .int (p1), .int (p2)]) h ko_X7_exchange kl_L_47 rfl (zl_a rfl rfl) rfl rfl ⟨by decide, by decide, by decide, by decide⟩ (by decide) rfl dL_exchange_4 ?_
  refine zX_catch (hp := 10) (i := 4) (ls1 := [.ref (1), .int (p0), .int (p1), .int (p2), .null]) [] (0, 7, 10, 13) [] rfl (fun _ h => by cases h) (by decide) rfl (by decide) (zG_in 215 (by decide +kernel) rfl) (by decide) (by decide) rfl dL_exchange_10 ?_
  refine z_iconst (nI 1) (by decide) dL_exchange_12 ?_
  exact z_iret (rfl) rfl (znarI _) (by decide) (by decide) dL_exchange_13
set_option maxRecDepth 100000 in
set_option maxHeartbeats 4000000 in
theorem w_shrink {E : Nat × (Nat → Int32)} {μ : Nat → Nat → Int32} {g : Int64} {p0 p1 p2 p3 : Int32} {v : Int32} {μ1 : zMu} (h : zCt E kX7_shrink [.ref (1), .int (p0), .int (p1), .int (p2), .int (p3)] (zm μ g) (.inl (some (.int v)), zm μ1 g)) : zCt E kL_shrink [.ref (1), .int (p0), .int (p1), .int (p2), .int (p3), .ref (145)] (zm μ g) (.inl (some (.int (nI 0))), zm μ1 v.toInt64) := by
  refine zCt_of ko_L_shrink (Nat.le_of_ble_eq_true rfl) (zas_r (zas_i (zas_i (zas_i (zas_i (zas_r zas_0)))))) ⟨Nat.le_refl _, fun h => absurd h (Nat.lt_irrefl _)⟩ (Nat.le_of_ble_eq_true rfl) ?_
  show zV false E kL_shrink 145 _ 0 [.ref (1), .int (p0), .int (p1), .int (p2), .int (p3), .ref (145), .null] [] (zm μ g) 0 0
  refine z_aload rfl dL_shrink_0 ?_
  refine z_iconst (nI 0) (by decide) dL_shrink_2 ?_
  refine z_aload_n rfl rfl dL_shrink_3 ?_
  refine z_iload_n rfl rfl dL_shrink_4 ?_
  refine z_iload_n rfl rfl dL_shrink_5 ?_
  refine z_iload_n rfl rfl dL_shrink_6 ?_
  refine z_iload rfl dL_shrink_7 ?_
  refine z_callV (as := [.int (p0), .int (p1), .int (p2), .int (p3)]) h ko_X7_shrink kl_L_50 rfl (zl_a rfl rfl) rfl rfl ⟨by decide, by decide, by decide, by decide⟩ (Nat.le_of_ble_eq_true rfl) rfl dL_shrink_9 ?_
  refine z_i2l dL_shrink_12 ?_
  refine z_last (zl_a rfl rfl) zκ_one rfl dL_shrink_13 ?_
  refine z_goto 29 (by decide) dL_shrink_14 ?_
  refine z_iconst (nI 0) (by decide) dL_shrink_29 ?_
  exact z_iret (rfl) rfl (znarI _) (by decide) (by decide) dL_shrink_30
set_option maxRecDepth 100000 in
set_option maxHeartbeats 4000000 in
theorem wI_shrink {E : Nat × (Nat → Int32)} {μ : Nat → Nat → Int32} {g : Int64} {p0 p1 p2 p3 : Int32} (h : zCt E kX7_shrink [.ref (1), .int (p0), .int (p1), .int (p2), .int (p3)] (zm μ g) (.inr xI, zm μ g)) : zCt E kL_shrink [.ref (1), .int (p0), .int (p1), .int (p2), .int (p3), .ref (145)] (zm μ g) (.inl (some (.int (nI 1))), zm μ g) := by
  refine zCt_of ko_L_shrink (Nat.le_of_ble_eq_true rfl) (zas_r (zas_i (zas_i (zas_i (zas_i (zas_r zas_0)))))) ⟨Nat.le_refl _, fun h => absurd h (Nat.lt_irrefl _)⟩ (Nat.le_of_ble_eq_true rfl) ?_
  show zV false E kL_shrink 145 _ 0 [.ref (1), .int (p0), .int (p1), .int (p2), .int (p3), .ref (145), .null] [] (zm μ g) 0 0
  refine z_aload rfl dL_shrink_0 ?_
  refine z_iconst (nI 0) (by decide) dL_shrink_2 ?_
  refine z_aload_n rfl rfl dL_shrink_3 ?_
  refine z_iload_n rfl rfl dL_shrink_4 ?_
  refine z_iload_n rfl rfl dL_shrink_5 ?_
  refine z_iload_n rfl rfl dL_shrink_6 ?_
  refine z_iload rfl dL_shrink_7 ?_
  refine z_callVx (as := [.int (p0), .int (p1), .int (p2), .int (p3)]) h ko_X7_shrink kl_L_50 rfl (zl_a rfl rfl) rfl rfl ⟨by decide, by decide, by decide, by decide⟩ (by decide) rfl dL_shrink_9 ?_
  refine zX_catch (hp := 17) (i := 6) (ls1 := [.ref (1), .int (p0), .int (p1), .int (p2), .int (p3), .ref (145), .null]) [] (0, 14, 17, 13) [(0, 14, 21, 15), (0, 14, 25, 17)] rfl (fun _ h => by cases h) (by decide) rfl (by decide) (zG_in 215 (by decide +kernel) rfl) (by decide) (by decide) rfl dL_shrink_17 ?_
  refine z_iconst (nI 1) (by decide) dL_shrink_19 ?_
  exact z_iret (rfl) rfl (znarI _) (by decide) (by decide) dL_shrink_20
set_option maxRecDepth 100000 in
set_option maxHeartbeats 4000000 in
theorem wA_shrink {E : Nat × (Nat → Int32)} {μ : Nat → Nat → Int32} {g : Int64} {p0 p1 p2 p3 : Int32} (h : zCt E kX7_shrink [.ref (1), .int (p0), .int (p1), .int (p2), .int (p3)] (zm μ g) (.inr xA, zm μ g)) : zCt E kL_shrink [.ref (1), .int (p0), .int (p1), .int (p2), .int (p3), .ref (145)] (zm μ g) (.inl (some (.int (nI 2))), zm μ g) := by
  refine zCt_of ko_L_shrink (Nat.le_of_ble_eq_true rfl) (zas_r (zas_i (zas_i (zas_i (zas_i (zas_r zas_0)))))) ⟨Nat.le_refl _, fun h => absurd h (Nat.lt_irrefl _)⟩ (Nat.le_of_ble_eq_true rfl) ?_
  show zV false E kL_shrink 145 _ 0 [.ref (1), .int (p0), .int (p1), .int (p2), .int (p3), .ref (145), .null] [] (zm μ g) 0 0
  refine z_aload rfl dL_shrink_0 ?_
  refine z_iconst (nI 0) (by decide) dL_shrink_2 ?_
  refine z_aload_n rfl rfl dL_shrink_3 ?_
  refine z_iload_n rfl rfl dL_shrink_4 ?_
  refine z_iload_n rfl rfl dL_shrink_5 ?_
  refine z_iload_n rfl rfl dL_shrink_6 ?_
  refine z_iload rfl dL_shrink_7 ?_
  refine z_callVx (as := [.int (p0), .int (p1), .int (p2), .int (p3)]) h ko_X7_shrink kl_L_50 rfl (zl_a rfl rfl) rfl rfl ⟨by decide, by decide, by decide, by decide⟩ (by decide) rfl dL_shrink_9 ?_
  refine zX_catch (hp := 21) (i := 6) (ls1 := [.ref (1), .int (p0), .int (p1), .int (p2), .int (p3), .ref (145), .null]) [(0, 14, 17, 13)] (0, 14, 21, 15) [(0, 14, 25, 17)] rfl (List.forall_mem_cons.mpr ⟨⟨by decide, "java/lang/IndexOutOfBoundsException", zG_in 215 (by decide +kernel) rfl, by decide⟩, (fun _ h => by cases h)⟩) (by decide) rfl (by decide) (zG_in 216 (by decide +kernel) rfl) (by decide) (by decide) rfl dL_shrink_21 ?_
  refine z_iconst (nI 2) (by decide) dL_shrink_23 ?_
  exact z_iret (rfl) rfl (znarI _) (by decide) (by decide) dL_shrink_24
set_option maxRecDepth 100000 in
set_option maxHeartbeats 4000000 in
theorem wS_shrink {E : Nat × (Nat → Int32)} {μ : Nat → Nat → Int32} {g : Int64} {p0 p1 p2 p3 : Int32} (h : zCt E kX7_shrink [.ref (1), .int (p0), .int (p1), .int (p2), .int (p3)] (zm μ g) (.inr xS, zm μ g)) : zCt E kL_shrink [.ref (1), .int (p0), .int (p1), .int (p2), .int (p3), .ref (145)] (zm μ g) (.inl (some (.int (nI 3))), zm μ g) := by
  refine zCt_of ko_L_shrink (Nat.le_of_ble_eq_true rfl) (zas_r (zas_i (zas_i (zas_i (zas_i (zas_r zas_0)))))) ⟨Nat.le_refl _, fun h => absurd h (Nat.lt_irrefl _)⟩ (Nat.le_of_ble_eq_true rfl) ?_
  show zV false E kL_shrink 145 _ 0 [.ref (1), .int (p0), .int (p1), .int (p2), .int (p3), .ref (145), .null] [] (zm μ g) 0 0
  refine z_aload rfl dL_shrink_0 ?_
  refine z_iconst (nI 0) (by decide) dL_shrink_2 ?_
  refine z_aload_n rfl rfl dL_shrink_3 ?_
  refine z_iload_n rfl rfl dL_shrink_4 ?_
  refine z_iload_n rfl rfl dL_shrink_5 ?_
  refine z_iload_n rfl rfl dL_shrink_6 ?_
  refine z_iload rfl dL_shrink_7 ?_
  refine z_callVx (as := [.int (p0), .int (p1), .int (p2), .int (p3)]) h ko_X7_shrink kl_L_50 rfl (zl_a rfl rfl) rfl rfl ⟨by decide, by decide, by decide, by decide⟩ (by decide) rfl dL_shrink_9 ?_
  refine zX_catch (hp := 25) (i := 6) (ls1 := [.ref (1), .int (p0), .int (p1), .int (p2), .int (p3), .ref (145), .null]) [(0, 14, 17, 13), (0, 14, 21, 15)] (0, 14, 25, 17) [] rfl (List.forall_mem_cons.mpr ⟨⟨by decide, "java/lang/IndexOutOfBoundsException", zG_in 215 (by decide +kernel) rfl, by decide⟩, (List.forall_mem_cons.mpr ⟨⟨by decide, "java/lang/IllegalArgumentException", zG_in 216 (by decide +kernel) rfl, by decide⟩, (fun _ h => by cases h)⟩)⟩) (by decide) rfl (by decide) (zG_in 217 (by decide +kernel) rfl) (by decide) (by decide) rfl dL_shrink_25 ?_
  refine z_iconst (nI 3) (by decide) dL_shrink_27 ?_
  exact z_iret (rfl) rfl (znarI _) (by decide) (by decide) dL_shrink_28
set_option maxRecDepth 100000 in
set_option maxHeartbeats 4000000 in
theorem w_lose {E : Nat × (Nat → Int32)} {μ : Nat → Nat → Int32} {g : Int64} {p0 p1 p2 : Int32} {v : Int32} {μ1 : zMu} (h : zCt E kX7_lose [.ref (1), .int (p0), .int (p1), .int (p2)] (zm μ g) (.inl (some (.int v)), zm μ1 g)) : zCt E kL_lose [.ref (1), .int (p0), .int (p1), .int (p2), .ref (145)] (zm μ g) (.inl (some (.int (nI 0))), zm μ1 v.toInt64) := by
  refine zCt_of ko_L_lose (Nat.le_of_ble_eq_true rfl) (zas_r (zas_i (zas_i (zas_i (zas_r zas_0))))) ⟨Nat.le_refl _, fun h => absurd h (Nat.lt_irrefl _)⟩ (Nat.le_of_ble_eq_true rfl) ?_
  show zV false E kL_lose 145 _ 0 [.ref (1), .int (p0), .int (p1), .int (p2), .ref (145), .null] [] (zm μ g) 0 0
  refine z_aload rfl dL_lose_0 ?_
  refine z_iconst (nI 0) (by decide) dL_lose_2 ?_
  refine z_aload_n rfl rfl dL_lose_3 ?_
  refine z_iload_n rfl rfl dL_lose_4 ?_
  refine z_iload_n rfl rfl dL_lose_5 ?_
  refine z_iload_n rfl rfl dL_lose_6 ?_
  refine z_callV (as := [.int (p0), .int (p1), .int (p2)]) h ko_X7_lose kl_L_54 rfl (zl_a rfl rfl) rfl rfl ⟨by decide, by decide, by decide, by decide⟩ (Nat.le_of_ble_eq_true rfl) rfl dL_lose_7 ?_
  refine z_i2l dL_lose_10 ?_
  refine z_last (zl_a rfl rfl) zκ_one rfl dL_lose_11 ?_
  refine z_goto 23 (by decide) dL_lose_12 ?_
  refine z_iconst (nI 0) (by decide) dL_lose_23 ?_
  exact z_iret (rfl) rfl (znarI _) (by decide) (by decide) dL_lose_24
set_option maxRecDepth 100000 in
set_option maxHeartbeats 4000000 in
theorem wI_lose {E : Nat × (Nat → Int32)} {μ : Nat → Nat → Int32} {g : Int64} {p0 p1 p2 : Int32} (h : zCt E kX7_lose [.ref (1), .int (p0), .int (p1), .int (p2)] (zm μ g) (.inr xI, zm μ g)) : zCt E kL_lose [.ref (1), .int (p0), .int (p1), .int (p2), .ref (145)] (zm μ g) (.inl (some (.int (nI 1))), zm μ g) := by
  refine zCt_of ko_L_lose (Nat.le_of_ble_eq_true rfl) (zas_r (zas_i (zas_i (zas_i (zas_r zas_0))))) ⟨Nat.le_refl _, fun h => absurd h (Nat.lt_irrefl _)⟩ (Nat.le_of_ble_eq_true rfl) ?_
  show zV false E kL_lose 145 _ 0 [.ref (1), .int (p0), .int (p1), .int (p2), .ref (145), .null] [] (zm μ g) 0 0
  refine z_aload rfl dL_lose_0 ?_
  refine z_iconst (nI 0) (by decide) dL_lose_2 ?_
  refine z_aload_n rfl rfl dL_lose_3 ?_
  refine z_iload_n rfl rfl dL_lose_4 ?_
  refine z_iload_n rfl rfl dL_lose_5 ?_
  refine z_iload_n rfl rfl dL_lose_6 ?_
  refine z_callVx (as := [.int (p0), .int (p1), .int (p2)]) h ko_X7_lose kl_L_54 rfl (zl_a rfl rfl) rfl rfl ⟨by decide, by decide, by decide, by decide⟩ (by decide) rfl dL_lose_7 ?_
  refine zX_catch (hp := 15) (i := 5) (ls1 := [.ref (1), .int (p0), .int (p1), .int (p2), .ref (145), .null]) [] (0, 12, 15, 13) [(0, 12, 19, 15)] rfl (fun _ h => by cases h) (by decide) rfl (by decide) (zG_in 215 (by decide +kernel) rfl) (by decide) (by decide) rfl dL_lose_15 ?_
  refine z_iconst (nI 1) (by decide) dL_lose_17 ?_
  exact z_iret (rfl) rfl (znarI _) (by decide) (by decide) dL_lose_18
set_option maxRecDepth 100000 in
set_option maxHeartbeats 4000000 in
theorem wA_lose {E : Nat × (Nat → Int32)} {μ : Nat → Nat → Int32} {g : Int64} {p0 p1 p2 : Int32} (h : zCt E kX7_lose [.ref (1), .int (p0), .int (p1), .int (p2)] (zm μ g) (.inr xA, zm μ g)) : zCt E kL_lose [.ref (1), .int (p0), .int (p1), .int (p2), .ref (145)] (zm μ g) (.inl (some (.int (nI 2))), zm μ g) := by
  refine zCt_of ko_L_lose (Nat.le_of_ble_eq_true rfl) (zas_r (zas_i (zas_i (zas_i (zas_r zas_0))))) ⟨Nat.le_refl _, fun h => absurd h (Nat.lt_irrefl _)⟩ (Nat.le_of_ble_eq_true rfl) ?_
  show zV false E kL_lose 145 _ 0 [.ref (1), .int (p0), .int (p1), .int (p2), .ref (145), .null] [] (zm μ g) 0 0
  refine z_aload rfl dL_lose_0 ?_
  refine z_iconst (nI 0) (by decide) dL_lose_2 ?_
  refine z_aload_n rfl rfl dL_lose_3 ?_
  refine z_iload_n rfl rfl dL_lose_4 ?_
  refine z_iload_n rfl rfl dL_lose_5 ?_
  refine z_iload_n rfl rfl dL_lose_6 ?_
  refine z_callVx (as := [.int (p0), .int (p1), .int (p2)]) h ko_X7_lose kl_L_54 rfl (zl_a rfl rfl) rfl rfl ⟨by decide, by decide, by decide, by decide⟩ (by decide) rfl dL_lose_7 ?_
  refine zX_catch (hp := 19) (i := 5) (ls1 := [.ref (1), .int (p0), .int (p1), .int (p2), .ref (145), .null]) [(0, 12, 15, 13)] (0, 12, 19, 15) [] rfl (List.forall_mem_cons.mpr ⟨⟨by decide, "java/lang/IndexOutOfBoundsException", zG_in 215 (by decide +kernel) rfl, by decide⟩, (fun _ h => by cases h)⟩) (by decide) rfl (by decide) (zG_in 216 (by decide +kernel) rfl) (by decide) (by decide) rfl dL_lose_19 ?_
  refine z_iconst (nI 2) (by decide) dL_lose_21 ?_
  exact z_iret (rfl) rfl (znarI _) (by decide) (by decide) dL_lose_22
set_option maxRecDepth 100000 in
set_option maxHeartbeats 4000000 in
theorem w_paint {E : Nat × (Nat → Int32)} {μ : Nat → Nat → Int32} {g : Int64} {p0 p1 : Int32} {v : Int32} {μ1 : zMu} (h : zCt E kX7_paint [.ref (1), .int (p0), .int (p1)] (zm μ g) (.inl (some (.int v)), zm μ1 g)) : zCt E kL_paint [.ref (1), .int (p0), .int (p1), .ref (145)] (zm μ g) (.inl (some (.int (nI 0))), zm μ1 (if v = 0 then 0 else 1)) := by
  refine zCt_of ko_L_paint (Nat.le_of_ble_eq_true rfl) (zas_r (zas_i (zas_i (zas_r zas_0)))) ⟨Nat.le_refl _, fun h => absurd h (Nat.lt_irrefl _)⟩ (Nat.le_of_ble_eq_true rfl) ?_
  show zV false E kL_paint 145 _ 0 [.ref (1), .int (p0), .int (p1), .ref (145), .null] [] (zm μ g) 0 0
  refine z_aload_n rfl rfl dL_paint_0 ?_
  refine z_iconst (nI 0) (by decide) dL_paint_1 ?_
  refine z_aload_n rfl rfl dL_paint_2 ?_
  refine z_iload_n rfl rfl dL_paint_3 ?_
  refine z_iload_n rfl rfl dL_paint_4 ?_
  refine z_callV (as := [.int (p0), .int (p1)]) h ko_X7_paint kl_L_57 rfl (zl_a rfl rfl) rfl rfl ⟨by decide, by decide, by decide, by decide⟩ (Nat.le_of_ble_eq_true rfl) rfl dL_paint_5 ?_
  refine z_if_eq 15 (by decide) dL_paint_8 (fun h1 => ?_) (fun h2 => ?_)
  · refine z_lconst 0 rfl dL_paint_15 ?_
    refine z_last (zl_a rfl rfl) zκ_one rfl dL_paint_16 ?_
    refine z_goto 24 (by decide) dL_paint_17 ?_
    refine z_iconst (nI 0) (by decide) dL_paint_24 ?_
    exact z_iret (by first | rw [if_pos h1] | rw [if_neg h1]) rfl (znarI _) (by decide) (by decide) dL_paint_25
  · refine z_lconst 1 rfl dL_paint_11 ?_
    refine z_goto 16 (by decide) dL_paint_12 ?_
    refine z_last (zl_a rfl rfl) zκ_one rfl dL_paint_16 ?_
    refine z_goto 24 (by decide) dL_paint_17 ?_
    refine z_iconst (nI 0) (by decide) dL_paint_24 ?_
    exact z_iret (by first | rw [if_pos h2] | rw [if_neg h2]) rfl (znarI _) (by decide) (by decide) dL_paint_25
set_option maxRecDepth 100000 in
set_option maxHeartbeats 4000000 in
theorem wI_paint {E : Nat × (Nat → Int32)} {μ : Nat → Nat → Int32} {g : Int64} {p0 p1 : Int32} (h : zCt E kX7_paint [.ref (1), .int (p0), .int (p1)] (zm μ g) (.inr xI, zm μ g)) : zCt E kL_paint [.ref (1), .int (p0), .int (p1), .ref (145)] (zm μ g) (.inl (some (.int (nI 1))), zm μ g) := by
  refine zCt_of ko_L_paint (Nat.le_of_ble_eq_true rfl) (zas_r (zas_i (zas_i (zas_r zas_0)))) ⟨Nat.le_refl _, fun h => absurd h (Nat.lt_irrefl _)⟩ (Nat.le_of_ble_eq_true rfl) ?_
  show zV false E kL_paint 145 _ 0 [.ref (1), .int (p0), .int (p1), .ref (145), .null] [] (zm μ g) 0 0
  refine z_aload_n rfl rfl dL_paint_0 ?_
  refine z_iconst (nI 0) (by decide) dL_paint_1 ?_
  refine z_aload_n rfl rfl dL_paint_2 ?_
  refine z_iload_n rfl rfl dL_paint_3 ?_
  refine z_iload_n rfl rfl dL_paint_4 ?_
  refine z_callVx (as := [.int (p0), .int (p1)]) h ko_X7_paint kl_L_57 rfl (zl_a rfl rfl) rfl rfl ⟨by decide, by decide, by decide, by decide⟩ (by decide) rfl dL_paint_5 ?_
  refine zX_catch (hp := 20) (i := 4) (ls1 := [.ref (1), .int (p0), .int (p1), .ref (145), .null]) [] (0, 17, 20, 13) [] rfl (fun _ h => by cases h) (by decide) rfl (by decide) (zG_in 215 (by decide +kernel) rfl) (by decide) (by decide) rfl dL_paint_20 ?_
  refine z_iconst (nI 1) (by decide) dL_paint_22 ?_
  exact z_iret (rfl) rfl (znarI _) (by decide) (by decide) dL_paint_23
set_option maxRecDepth 100000 in
set_option maxHeartbeats 4000000 in
theorem w_told {E : Nat × (Nat → Int32)} {μ : Nat → Nat → Int32} {g : Int64} {p0 p1 : Int32} {v : Int32} {μ1 : zMu} (h : zCt E kX7_told [.ref (1), .int (p0), .int (p1)] (zm μ g) (.inl (some (.int v)), zm μ1 g)) : zCt E kL_told [.ref (1), .int (p0), .int (p1), .ref (145)] (zm μ g) (.inl (some (.int (nI 0))), zm μ1 v.toInt64) := by
  refine zCt_of ko_L_told (Nat.le_of_ble_eq_true rfl) (zas_r (zas_i (zas_i (zas_r zas_0)))) ⟨Nat.le_refl _, fun h => absurd h (Nat.lt_irrefl _)⟩ (Nat.le_of_ble_eq_true rfl) ?_
  show zV false E kL_told 145 _ 0 [.ref (1), .int (p0), .int (p1), .ref (145), .null] [] (zm μ g) 0 0
  refine z_aload_n rfl rfl dL_told_0 ?_
  refine z_iconst (nI 0) (by decide) dL_told_1 ?_
  refine z_aload_n rfl rfl dL_told_2 ?_
  refine z_iload_n rfl rfl dL_told_3 ?_
  refine z_iload_n rfl rfl dL_told_4 ?_
  refine z_callV (as := [.int (p0), .int (p1)]) h ko_X7_told kl_L_61 rfl (zl_a rfl rfl) rfl rfl ⟨by decide, by decide, by decide, by decide⟩ (Nat.le_of_ble_eq_true rfl) rfl dL_told_5 ?_
  refine z_i2l dL_told_8 ?_
  refine z_last (zl_a rfl rfl) zκ_one rfl dL_told_9 ?_
  refine z_goto 17 (by decide) dL_told_10 ?_
  refine z_iconst (nI 0) (by decide) dL_told_17 ?_
  exact z_iret (rfl) rfl (znarI _) (by decide) (by decide) dL_told_18
set_option maxRecDepth 100000 in
set_option maxHeartbeats 4000000 in
theorem wI_told {E : Nat × (Nat → Int32)} {μ : Nat → Nat → Int32} {g : Int64} {p0 p1 : Int32} (h : zCt E kX7_told [.ref (1), .int (p0), .int (p1)] (zm μ g) (.inr xI, zm μ g)) : zCt E kL_told [.ref (1), .int (p0), .int (p1), .ref (145)] (zm μ g) (.inl (some (.int (nI 1))), zm μ g) := by
  refine zCt_of ko_L_told (Nat.le_of_ble_eq_true rfl) (zas_r (zas_i (zas_i (zas_r zas_0)))) ⟨Nat.le_refl _, fun h => absurd h (Nat.lt_irrefl _)⟩ (Nat.le_of_ble_eq_true rfl) ?_
  show zV false E kL_told 145 _ 0 [.ref (1), .int (p0), .int (p1), .ref (145), .null] [] (zm μ g) 0 0
  refine z_aload_n rfl rfl dL_told_0 ?_
  refine z_iconst (nI 0) (by decide) dL_told_1 ?_
  refine z_aload_n rfl rfl dL_told_2 ?_
  refine z_iload_n rfl rfl dL_told_3 ?_
  refine z_iload_n rfl rfl dL_told_4 ?_
  refine z_callVx (as := [.int (p0), .int (p1)]) h ko_X7_told kl_L_61 rfl (zl_a rfl rfl) rfl rfl ⟨by decide, by decide, by decide, by decide⟩ (by decide) rfl dL_told_5 ?_
  refine zX_catch (hp := 13) (i := 4) (ls1 := [.ref (1), .int (p0), .int (p1), .ref (145), .null]) [] (0, 10, 13, 13) [] rfl (fun _ h => by cases h) (by decide) rfl (by decide) (zG_in 215 (by decide +kernel) rfl) (by decide) (by decide) rfl dL_told_13 ?_
  refine z_iconst (nI 1) (by decide) dL_told_15 ?_
  exact z_iret (rfl) rfl (znarI _) (by decide) (by decide) dL_told_16
set_option maxRecDepth 100000 in
set_option maxHeartbeats 4000000 in
theorem w_at {E : Nat × (Nat → Int32)} {μ : Nat → Nat → Int32} {g : Int64} {p0 p1 p2 : Int32} {v : Int32} {μ1 : zMu} (h : zCt E kX7_at [.ref (1), .int (p0), .int (p1), .int (p2)] (zm μ g) (.inl (some (.int v)), zm μ1 g)) : zCt E kL_at [.ref (1), .int (p0), .int (p1), .int (p2), .ref (145)] (zm μ g) (.inl (some (.int (nI 0))), zm μ1 v.toInt64) := by
  refine zCt_of ko_L_at (Nat.le_of_ble_eq_true rfl) (zas_r (zas_i (zas_i (zas_i (zas_r zas_0))))) ⟨Nat.le_refl _, fun h => absurd h (Nat.lt_irrefl _)⟩ (Nat.le_of_ble_eq_true rfl) ?_
  show zV false E kL_at 145 _ 0 [.ref (1), .int (p0), .int (p1), .int (p2), .ref (145), .null] [] (zm μ g) 0 0
  refine z_aload rfl dL_at_0 ?_
  refine z_iconst (nI 0) (by decide) dL_at_2 ?_
  refine z_aload_n rfl rfl dL_at_3 ?_
  refine z_iload_n rfl rfl dL_at_4 ?_
  refine z_iload_n rfl rfl dL_at_5 ?_
  refine z_iload_n rfl rfl dL_at_6 ?_
  refine z_callV (as := [.int (p0), .int (p1), .int (p2)]) h ko_X7_at kl_L_65 rfl (zl_a rfl rfl) rfl rfl ⟨by decide, by decide, by decide, by decide⟩ (Nat.le_of_ble_eq_true rfl) rfl dL_at_7 ?_
  refine z_i2l dL_at_10 ?_
  refine z_last (zl_a rfl rfl) zκ_one rfl dL_at_11 ?_
  refine z_goto 23 (by decide) dL_at_12 ?_
  refine z_iconst (nI 0) (by decide) dL_at_23 ?_
  exact z_iret (rfl) rfl (znarI _) (by decide) (by decide) dL_at_24
set_option maxRecDepth 100000 in
set_option maxHeartbeats 4000000 in
theorem wI_at {E : Nat × (Nat → Int32)} {μ : Nat → Nat → Int32} {g : Int64} {p0 p1 p2 : Int32} (h : zCt E kX7_at [.ref (1), .int (p0), .int (p1), .int (p2)] (zm μ g) (.inr xI, zm μ g)) : zCt E kL_at [.ref (1), .int (p0), .int (p1), .int (p2), .ref (145)] (zm μ g) (.inl (some (.int (nI 1))), zm μ g) := by
  refine zCt_of ko_L_at (Nat.le_of_ble_eq_true rfl) (zas_r (zas_i (zas_i (zas_i (zas_r zas_0))))) ⟨Nat.le_refl _, fun h => absurd h (Nat.lt_irrefl _)⟩ (Nat.le_of_ble_eq_true rfl) ?_
  show zV false E kL_at 145 _ 0 [.ref (1), .int (p0), .int (p1), .int (p2), .ref (145), .null] [] (zm μ g) 0 0
  refine z_aload rfl dL_at_0 ?_
  refine z_iconst (nI 0) (by decide) dL_at_2 ?_
  refine z_aload_n rfl rfl dL_at_3 ?_
  refine z_iload_n rfl rfl dL_at_4 ?_
  refine z_iload_n rfl rfl dL_at_5 ?_
  refine z_iload_n rfl rfl dL_at_6 ?_
  refine z_callVx (as := [.int (p0), .int (p1), .int (p2)]) h ko_X7_at kl_L_65 rfl (zl_a rfl rfl) rfl rfl ⟨by decide, by decide, by decide, by decide⟩ (by decide) rfl dL_at_7 ?_
  refine zX_catch (hp := 15) (i := 5) (ls1 := [.ref (1), .int (p0), .int (p1), .int (p2), .ref (145), .null]) [] (0, 12, 15, 13) [(0, 12, 19, 15)] rfl (fun _ h => by cases h) (by decide) rfl (by decide) (zG_in 215 (by decide +kernel) rfl) (by decide) (by decide) rfl dL_at_15 ?_
  refine z_iconst (nI 1) (by decide) dL_at_17 ?_
  exact z_iret (rfl) rfl (znarI _) (by decide) (by decide) dL_at_18
set_option maxRecDepth 100000 in
set_option maxHeartbeats 4000000 in
theorem wA_at {E : Nat × (Nat → Int32)} {μ : Nat → Nat → Int32} {g : Int64} {p0 p1 p2 : Int32} (h : zCt E kX7_at [.ref (1), .int (p0), .int (p1), .int (p2)] (zm μ g) (.inr xA, zm μ g)) : zCt E kL_at [.ref (1), .int (p0), .int (p1), .int (p2), .ref (145)] (zm μ g) (.inl (some (.int (nI 2))), zm μ g) := by
  refine zCt_of ko_L_at (Nat.le_of_ble_eq_true rfl) (zas_r (zas_i (zas_i (zas_i (zas_r zas_0))))) ⟨Nat.le_refl _, fun h => absurd h (Nat.lt_irrefl _)⟩ (Nat.le_of_ble_eq_true rfl) ?_
  show zV false E kL_at 145 _ 0 [.ref (1), .int (p0), .int (p1), .int (p2), .ref (145), .null] [] (zm μ g) 0 0
  refine z_aload rfl dL_at_0 ?_
  refine z_iconst (nI 0) (by decide) dL_at_2 ?_
  refine z_aload_n rfl rfl dL_at_3 ?_
  refine z_iload_n rfl rfl dL_at_4 ?_
  refine z_iload_n rfl rfl dL_at_5 ?_
  refine z_iload_n rfl rfl dL_at_6 ?_
  refine z_callVx (as := [.int (p0), .int (p1), .int (p2)]) h ko_X7_at kl_L_65 rfl (zl_a rfl rfl) rfl rfl ⟨by decide, by decide, by decide, by decide⟩ (by decide) rfl dL_at_7 ?_
  refine zX_catch (hp := 19) (i := 5) (ls1 := [.ref (1), .int (p0), .int (p1), .int (p2), .ref (145), .null]) [(0, 12, 15, 13)] (0, 12, 19, 15) [] rfl (List.forall_mem_cons.mpr ⟨⟨by decide, "java/lang/IndexOutOfBoundsException", zG_in 215 (by decide +kernel) rfl, by decide⟩, (fun _ h => by cases h)⟩) (by decide) rfl (by decide) (zG_in 216 (by decide +kernel) rfl) (by decide) (by decide) rfl dL_at_19 ?_
  refine z_iconst (nI 2) (by decide) dL_at_21 ?_
  exact z_iret (rfl) rfl (znarI _) (by decide) (by decide) dL_at_22
set_option maxRecDepth 100000 in
set_option maxHeartbeats 4000000 in
theorem w_chain {E : Nat × (Nat → Int32)} {μ : Nat → Nat → Int32} {g : Int64} {p0 p1 p2 : Int32} {v : Int32} {μ1 : zMu} (h : zCt E kX7_chain [.ref (1), .int (p0), .int (p1), .int (p2)] (zm μ g) (.inl (some (.int v)), zm μ1 g)) : zCt E kL_chain [.ref (1), .int (p0), .int (p1), .int (p2), .ref (145)] (zm μ g) (.inl (some (.int (nI 0))), zm μ1 v.toInt64) := by
  refine zCt_of ko_L_chain (Nat.le_of_ble_eq_true rfl) (zas_r (zas_i (zas_i (zas_i (zas_r zas_0))))) ⟨Nat.le_refl _, fun h => absurd h (Nat.lt_irrefl _)⟩ (Nat.le_of_ble_eq_true rfl) ?_
  show zV false E kL_chain 145 _ 0 [.ref (1), .int (p0), .int (p1), .int (p2), .ref (145), .null] [] (zm μ g) 0 0
  refine z_aload rfl dL_chain_0 ?_
  refine z_iconst (nI 0) (by decide) dL_chain_2 ?_
  refine z_aload_n rfl rfl dL_chain_3 ?_
  refine z_iload_n rfl rfl dL_chain_4 ?_
  refine z_iload_n rfl rfl dL_chain_5 ?_
  refine z_iload_n rfl rfl dL_chain_6 ?_
  refine z_callV (as := [.int (p0), .int (p1), .int (p2)]) h ko_X7_chain kl_L_68 rfl (zl_a rfl rfl) rfl rfl ⟨by decide, by decide, by decide, by decide⟩ (Nat.le_of_ble_eq_true rfl) rfl dL_chain_7 ?_
  refine z_i2l dL_chain_10 ?_
  refine z_last (zl_a rfl rfl) zκ_one rfl dL_chain_11 ?_
  refine z_goto 19 (by decide) dL_chain_12 ?_
  refine z_iconst (nI 0) (by decide) dL_chain_19 ?_
  exact z_iret (rfl) rfl (znarI _) (by decide) (by decide) dL_chain_20
set_option maxRecDepth 100000 in
set_option maxHeartbeats 4000000 in
theorem wI_chain {E : Nat × (Nat → Int32)} {μ : Nat → Nat → Int32} {g : Int64} {p0 p1 p2 : Int32} (h : zCt E kX7_chain [.ref (1), .int (p0), .int (p1), .int (p2)] (zm μ g) (.inr xI, zm μ g)) : zCt E kL_chain [.ref (1), .int (p0), .int (p1), .int (p2), .ref (145)] (zm μ g) (.inl (some (.int (nI 1))), zm μ g) := by
  refine zCt_of ko_L_chain (Nat.le_of_ble_eq_true rfl) (zas_r (zas_i (zas_i (zas_i (zas_r zas_0))))) ⟨Nat.le_refl _, fun h => absurd h (Nat.lt_irrefl _)⟩ (Nat.le_of_ble_eq_true rfl) ?_
  show zV false E kL_chain 145 _ 0 [.ref (1), .int (p0), .int (p1), .int (p2), .ref (145), .null] [] (zm μ g) 0 0
  refine z_aload rfl dL_chain_0 ?_
  refine z_iconst (nI 0) (by decide) dL_chain_2 ?_
  refine z_aload_n rfl rfl dL_chain_3 ?_
  refine z_iload_n rfl rfl dL_chain_4 ?_
  refine z_iload_n rfl rfl dL_chain_5 ?_
  refine z_iload_n rfl rfl dL_chain_6 ?_
  refine z_callVx (as := [.int (p0), .int (p1), .int (p2)]) h ko_X7_chain kl_L_68 rfl (zl_a rfl rfl) rfl rfl ⟨by decide, by decide, by decide, by decide⟩ (by decide) rfl dL_chain_7 ?_
  refine zX_catch (hp := 15) (i := 5) (ls1 := [.ref (1), .int (p0), .int (p1), .int (p2), .ref (145), .null]) [] (0, 12, 15, 13) [] rfl (fun _ h => by cases h) (by decide) rfl (by decide) (zG_in 215 (by decide +kernel) rfl) (by decide) (by decide) rfl dL_chain_15 ?_
  refine z_iconst (nI 1) (by decide) dL_chain_17 ?_
  exact z_iret (rfl) rfl (znarI _) (by decide) (by decide) dL_chain_18
set_option maxRecDepth 100000 in
set_option maxHeartbeats 4000000 in
theorem w_of {E : Nat × (Nat → Int32)} {μ : Nat → Nat → Int32} {g : Int64} {p0 p1 : Int32} {v : Int32} {μ1 : zMu} (h : zCt E kX7_of [.ref (1), .int (p0), .int (p1)] (zm μ g) (.inl (some (.int v)), zm μ1 g)) : zCt E kL_of [.ref (1), .int (p0), .int (p1), .ref (145)] (zm μ g) (.inl (some (.int (nI 0))), zm μ1 v.toInt64) := by
  refine zCt_of ko_L_of (Nat.le_of_ble_eq_true rfl) (zas_r (zas_i (zas_i (zas_r zas_0)))) ⟨Nat.le_refl _, fun h => absurd h (Nat.lt_irrefl _)⟩ (Nat.le_of_ble_eq_true rfl) ?_
  show zV false E kL_of 145 _ 0 [.ref (1), .int (p0), .int (p1), .ref (145), .null] [] (zm μ g) 0 0
  refine z_aload_n rfl rfl dL_of_0 ?_
  refine z_iconst (nI 0) (by decide) dL_of_1 ?_
  refine z_aload_n rfl rfl dL_of_2 ?_
  refine z_iload_n rfl rfl dL_of_3 ?_
  refine z_iload_n rfl rfl dL_of_4 ?_
  refine z_callV (as := [.int (p0), .int (p1)]) h ko_X7_of kl_L_71 rfl (zl_a rfl rfl) rfl rfl ⟨by decide, by decide, by decide, by decide⟩ (Nat.le_of_ble_eq_true rfl) rfl dL_of_5 ?_
  refine z_i2l dL_of_8 ?_
  refine z_last (zl_a rfl rfl) zκ_one rfl dL_of_9 ?_
  refine z_goto 21 (by decide) dL_of_10 ?_
  refine z_iconst (nI 0) (by decide) dL_of_21 ?_
  exact z_iret (rfl) rfl (znarI _) (by decide) (by decide) dL_of_22
set_option maxRecDepth 100000 in
set_option maxHeartbeats 4000000 in
theorem wI_of {E : Nat × (Nat → Int32)} {μ : Nat → Nat → Int32} {g : Int64} {p0 p1 : Int32} (h : zCt E kX7_of [.ref (1), .int (p0), .int (p1)] (zm μ g) (.inr xI, zm μ g)) : zCt E kL_of [.ref (1), .int (p0), .int (p1), .ref (145)] (zm μ g) (.inl (some (.int (nI 1))), zm μ g) := by
  refine zCt_of ko_L_of (Nat.le_of_ble_eq_true rfl) (zas_r (zas_i (zas_i (zas_r zas_0)))) ⟨Nat.le_refl _, fun h => absurd h (Nat.lt_irrefl _)⟩ (Nat.le_of_ble_eq_true rfl) ?_
  show zV false E kL_of 145 _ 0 [.ref (1), .int (p0), .int (p1), .ref (145), .null] [] (zm μ g) 0 0
  refine z_aload_n rfl rfl dL_of_0 ?_
  refine z_iconst (nI 0) (by decide) dL_of_1 ?_
  refine z_aload_n rfl rfl dL_of_2 ?_
  refine z_iload_n rfl rfl dL_of_3 ?_
  refine z_iload_n rfl rfl dL_of_4 ?_
  refine z_callVx (as := [.int (p0), .int (p1)]) h ko_X7_of kl_L_71 rfl (zl_a rfl rfl) rfl rfl ⟨by decide, by decide, by decide, by decide⟩ (by decide) rfl dL_of_5 ?_
  refine zX_catch (hp := 13) (i := 4) (ls1 := [.ref (1), .int (p0), .int (p1), .ref (145), .null]) [] (0, 10, 13, 13) [(0, 10, 17, 15)] rfl (fun _ h => by cases h) (by decide) rfl (by decide) (zG_in 215 (by decide +kernel) rfl) (by decide) (by decide) rfl dL_of_13 ?_
  refine z_iconst (nI 1) (by decide) dL_of_15 ?_
  exact z_iret (rfl) rfl (znarI _) (by decide) (by decide) dL_of_16
set_option maxRecDepth 100000 in
set_option maxHeartbeats 4000000 in
theorem wA_of {E : Nat × (Nat → Int32)} {μ : Nat → Nat → Int32} {g : Int64} {p0 p1 : Int32} (h : zCt E kX7_of [.ref (1), .int (p0), .int (p1)] (zm μ g) (.inr xA, zm μ g)) : zCt E kL_of [.ref (1), .int (p0), .int (p1), .ref (145)] (zm μ g) (.inl (some (.int (nI 2))), zm μ g) := by
  refine zCt_of ko_L_of (Nat.le_of_ble_eq_true rfl) (zas_r (zas_i (zas_i (zas_r zas_0)))) ⟨Nat.le_refl _, fun h => absurd h (Nat.lt_irrefl _)⟩ (Nat.le_of_ble_eq_true rfl) ?_
  show zV false E kL_of 145 _ 0 [.ref (1), .int (p0), .int (p1), .ref (145), .null] [] (zm μ g) 0 0
  refine z_aload_n rfl rfl dL_of_0 ?_
  refine z_iconst (nI 0) (by decide) dL_of_1 ?_
  refine z_aload_n rfl rfl dL_of_2 ?_
  refine z_iload_n rfl rfl dL_of_3 ?_
  refine z_iload_n rfl rfl dL_of_4 ?_
  refine z_callVx (as := [.int (p0), .int (p1)]) h ko_X7_of kl_L_71 rfl (zl_a rfl rfl) rfl rfl ⟨by decide, by decide, by decide, by decide⟩ (by decide) rfl dL_of_5 ?_
  refine zX_catch (hp := 17) (i := 4) (ls1 := [.ref (1), .int (p0), .int (p1), .ref (145), .null]) [(0, 10, 13, 13)] (0, 10, 17, 15) [] rfl (List.forall_mem_cons.mpr ⟨⟨by decide, "java/lang/IndexOutOfBoundsException", zG_in 215 (by decide +kernel) rfl, by decide⟩, (fun _ h => by cases h)⟩) (by decide) rfl (by decide) (zG_in 216 (by decide +kernel) rfl) (by decide) (by decide) rfl dL_of_17 ?_
  refine z_iconst (nI 2) (by decide) dL_of_19 ?_
  exact z_iret (rfl) rfl (znarI _) (by decide) (by decide) dL_of_20
set_option maxRecDepth 100000 in
set_option maxHeartbeats 4000000 in
theorem w_ofIsland {E : Nat × (Nat → Int32)} {μ : Nat → Nat → Int32} {g : Int64} {p0 p1 : Int32} {v : Int32} {μ1 : zMu} (h : zCt E kX7_ofIsland [.ref (1), .int (p0), .int (p1)] (zm μ g) (.inl (some (.int v)), zm μ1 g)) : zCt E kL_ofIsland [.ref (1), .int (p0), .int (p1), .ref (145)] (zm μ g) (.inl (some (.int (nI 0))), zm μ1 v.toInt64) := by
  refine zCt_of ko_L_ofIsland (Nat.le_of_ble_eq_true rfl) (zas_r (zas_i (zas_i (zas_r zas_0)))) ⟨Nat.le_refl _, fun h => absurd h (Nat.lt_irrefl _)⟩ (Nat.le_of_ble_eq_true rfl) ?_
  show zV false E kL_ofIsland 145 _ 0 [.ref (1), .int (p0), .int (p1), .ref (145), .null] [] (zm μ g) 0 0
  refine z_aload_n rfl rfl dL_ofIsland_0 ?_
  refine z_iconst (nI 0) (by decide) dL_ofIsland_1 ?_
  refine z_aload_n rfl rfl dL_ofIsland_2 ?_
  refine z_iload_n rfl rfl dL_ofIsland_3 ?_
  refine z_iload_n rfl rfl dL_ofIsland_4 ?_
  refine z_callV (as := [.int (p0), .int (p1)]) h ko_X7_ofIsland kl_L_74 rfl (zl_a rfl rfl) rfl rfl ⟨by decide, by decide, by decide, by decide⟩ (Nat.le_of_ble_eq_true rfl) rfl dL_ofIsland_5 ?_
  refine z_i2l dL_ofIsland_8 ?_
  refine z_last (zl_a rfl rfl) zκ_one rfl dL_ofIsland_9 ?_
  refine z_goto 21 (by decide) dL_ofIsland_10 ?_
  refine z_iconst (nI 0) (by decide) dL_ofIsland_21 ?_
  exact z_iret (rfl) rfl (znarI _) (by decide) (by decide) dL_ofIsland_22
set_option maxRecDepth 100000 in
set_option maxHeartbeats 4000000 in
theorem wI_ofIsland {E : Nat × (Nat → Int32)} {μ : Nat → Nat → Int32} {g : Int64} {p0 p1 : Int32} (h : zCt E kX7_ofIsland [.ref (1), .int (p0), .int (p1)] (zm μ g) (.inr xI, zm μ g)) : zCt E kL_ofIsland [.ref (1), .int (p0), .int (p1), .ref (145)] (zm μ g) (.inl (some (.int (nI 1))), zm μ g) := by
  refine zCt_of ko_L_ofIsland (Nat.le_of_ble_eq_true rfl) (zas_r (zas_i (zas_i (zas_r zas_0)))) ⟨Nat.le_refl _, fun h => absurd h (Nat.lt_irrefl _)⟩ (Nat.le_of_ble_eq_true rfl) ?_
  show zV false E kL_ofIsland 145 _ 0 [.ref (1), .int (p0), .int (p1), .ref (145), .null] [] (zm μ g) 0 0
  refine z_aload_n rfl rfl dL_ofIsland_0 ?_
  refine z_iconst (nI 0) (by decide) dL_ofIsland_1 ?_
  refine z_aload_n rfl rfl dL_ofIsland_2 ?_
  refine z_iload_n rfl rfl dL_ofIsland_3 ?_
  refine z_iload_n rfl rfl dL_ofIsland_4 ?_
  refine z_callVx (as := [.int (p0), .int (p1)]) h ko_X7_ofIsland kl_L_74 rfl (zl_a rfl rfl) rfl rfl ⟨by decide, by decide, by decide, by decide⟩ (by decide) rfl dL_ofIsland_5 ?_
  refine zX_catch (hp := 13) (i := 4) (ls1 := [.ref (1), .int (p0), .int (p1), .ref (145), .null]) [] (0, 10, 13, 13) [(0, 10, 17, 15)] rfl (fun _ h => by cases h) (by decide) rfl (by decide) (zG_in 215 (by decide +kernel) rfl) (by decide) (by decide) rfl dL_ofIsland_13 ?_
  refine z_iconst (nI 1) (by decide) dL_ofIsland_15 ?_
  exact z_iret (rfl) rfl (znarI _) (by decide) (by decide) dL_ofIsland_16
set_option maxRecDepth 100000 in
set_option maxHeartbeats 4000000 in
theorem wA_ofIsland {E : Nat × (Nat → Int32)} {μ : Nat → Nat → Int32} {g : Int64} {p0 p1 : Int32} (h : zCt E kX7_ofIsland [.ref (1), .int (p0), .int (p1)] (zm μ g) (.inr xA, zm μ g)) : zCt E kL_ofIsland [.ref (1), .int (p0), .int (p1), .ref (145)] (zm μ g) (.inl (some (.int (nI 2))), zm μ g) := by
  refine zCt_of ko_L_ofIsland (Nat.le_of_ble_eq_true rfl) (zas_r (zas_i (zas_i (zas_r zas_0)))) ⟨Nat.le_refl _, fun h => absurd h (Nat.lt_irrefl _)⟩ (Nat.le_of_ble_eq_true rfl) ?_
  show zV false E kL_ofIsland 145 _ 0 [.ref (1), .int (p0), .int (p1), .ref (145), .null] [] (zm μ g) 0 0
  refine z_aload_n rfl rfl dL_ofIsland_0 ?_
  refine z_iconst (nI 0) (by decide) dL_ofIsland_1 ?_
  refine z_aload_n rfl rfl dL_ofIsland_2 ?_
  refine z_iload_n rfl rfl dL_ofIsland_3 ?_
  refine z_iload_n rfl rfl dL_ofIsland_4 ?_
  refine z_callVx (as := [.int (p0), .int (p1)]) h ko_X7_ofIsland kl_L_74 rfl (zl_a rfl rfl) rfl rfl ⟨by decide, by decide, by decide, by decide⟩ (by decide) rfl dL_ofIsland_5 ?_
  refine zX_catch (hp := 17) (i := 4) (ls1 := [.ref (1), .int (p0), .int (p1), .ref (145), .null]) [(0, 10, 13, 13)] (0, 10, 17, 15) [] rfl (List.forall_mem_cons.mpr ⟨⟨by decide, "java/lang/IndexOutOfBoundsException", zG_in 215 (by decide +kernel) rfl, by decide⟩, (fun _ h => by cases h)⟩) (by decide) rfl (by decide) (zG_in 216 (by decide +kernel) rfl) (by decide) (by decide) rfl dL_ofIsland_17 ?_
  refine z_iconst (nI 2) (by decide) dL_ofIsland_19 ?_
  exact z_iret (rfl) rfl (znarI _) (by decide) (by decide) dL_ofIsland_20
set_option maxRecDepth 100000 in
set_option maxHeartbeats 4000000 in
theorem w_fit {E : Nat × (Nat → Int32)} {μ : Nat → Nat → Int32} {g : Int64} {p0 p1 p2 : Int32} {v : Int32} {μ1 : zMu} (h : zCt E kX7_fit [.ref (1), .int (p0), .int (p1), .int (p2)] (zm μ g) (.inl (some (.int v)), zm μ1 g)) : zCt E kL_fit [.ref (1), .int (p0), .int (p1), .int (p2), .ref (145)] (zm μ g) (.inl (some (.int (nI 0))), zm μ1 v.toInt64) := by
  refine zCt_of ko_L_fit (Nat.le_of_ble_eq_true rfl) (zas_r (zas_i (zas_i (zas_i (zas_r zas_0))))) ⟨Nat.le_refl _, fun h => absurd h (Nat.lt_irrefl _)⟩ (Nat.le_of_ble_eq_true rfl) ?_
  show zV false E kL_fit 145 _ 0 [.ref (1), .int (p0), .int (p1), .int (p2), .ref (145), .null] [] (zm μ g) 0 0
  refine z_aload rfl dL_fit_0 ?_
  refine z_iconst (nI 0) (by decide) dL_fit_2 ?_
  refine z_aload_n rfl rfl dL_fit_3 ?_
  refine z_iload_n rfl rfl dL_fit_4 ?_
  refine z_iload_n rfl rfl dL_fit_5 ?_
  refine z_iload_n rfl rfl dL_fit_6 ?_
  refine z_callV (as := [.int (p0), .int (p1), .int (p2)]) h ko_X7_fit kl_L_77 rfl (zl_a rfl rfl) rfl rfl ⟨by decide, by decide, by decide, by decide⟩ (Nat.le_of_ble_eq_true rfl) rfl dL_fit_7 ?_
  refine z_i2l dL_fit_10 ?_
  refine z_last (zl_a rfl rfl) zκ_one rfl dL_fit_11 ?_
  refine z_goto 23 (by decide) dL_fit_12 ?_
  refine z_iconst (nI 0) (by decide) dL_fit_23 ?_
  exact z_iret (rfl) rfl (znarI _) (by decide) (by decide) dL_fit_24
set_option maxRecDepth 100000 in
set_option maxHeartbeats 4000000 in
theorem wI_fit {E : Nat × (Nat → Int32)} {μ : Nat → Nat → Int32} {g : Int64} {p0 p1 p2 : Int32} (h : zCt E kX7_fit [.ref (1), .int (p0), .int (p1), .int (p2)] (zm μ g) (.inr xI, zm μ g)) : zCt E kL_fit [.ref (1), .int (p0), .int (p1), .int (p2), .ref (145)] (zm μ g) (.inl (some (.int (nI 1))), zm μ g) := by
  refine zCt_of ko_L_fit (Nat.le_of_ble_eq_true rfl) (zas_r (zas_i (zas_i (zas_i (zas_r zas_0))))) ⟨Nat.le_refl _, fun h => absurd h (Nat.lt_irrefl _)⟩ (Nat.le_of_ble_eq_true rfl) ?_
  show zV false E kL_fit 145 _ 0 [.ref (1), .int (p0), .int (p1), .int (p2), .ref (145), .null] [] (zm μ g) 0 0
  refine z_aload rfl dL_fit_0 ?_
  refine z_iconst (nI 0) (by decide) dL_fit_2 ?_
  refine z_aload_n rfl rfl dL_fit_3 ?_
  refine z_iload_n rfl rfl dL_fit_4 ?_
  refine z_iload_n rfl rfl dL_fit_5 ?_
  refine z_iload_n rfl rfl dL_fit_6 ?_
  refine z_callVx (as := [.int (p0), .int (p1), .int (p2)]) h ko_X7_fit kl_L_77 rfl (zl_a rfl rfl) rfl rfl ⟨by decide, by decide, by decide, by decide⟩ (by decide) rfl dL_fit_7 ?_
  refine zX_catch (hp := 15) (i := 5) (ls1 := [.ref (1), .int (p0), .int (p1), .int (p2), .ref (145), .null]) [] (0, 12, 15, 13) [(0, 12, 19, 15)] rfl (fun _ h => by cases h) (by decide) rfl (by decide) (zG_in 215 (by decide +kernel) rfl) (by decide) (by decide) rfl dL_fit_15 ?_
  refine z_iconst (nI 1) (by decide) dL_fit_17 ?_
  exact z_iret (rfl) rfl (znarI _) (by decide) (by decide) dL_fit_18
set_option maxRecDepth 100000 in
set_option maxHeartbeats 4000000 in
theorem wA_fit {E : Nat × (Nat → Int32)} {μ : Nat → Nat → Int32} {g : Int64} {p0 p1 p2 : Int32} (h : zCt E kX7_fit [.ref (1), .int (p0), .int (p1), .int (p2)] (zm μ g) (.inr xA, zm μ g)) : zCt E kL_fit [.ref (1), .int (p0), .int (p1), .int (p2), .ref (145)] (zm μ g) (.inl (some (.int (nI 2))), zm μ g) := by
  refine zCt_of ko_L_fit (Nat.le_of_ble_eq_true rfl) (zas_r (zas_i (zas_i (zas_i (zas_r zas_0))))) ⟨Nat.le_refl _, fun h => absurd h (Nat.lt_irrefl _)⟩ (Nat.le_of_ble_eq_true rfl) ?_
  show zV false E kL_fit 145 _ 0 [.ref (1), .int (p0), .int (p1), .int (p2), .ref (145), .null] [] (zm μ g) 0 0
  refine z_aload rfl dL_fit_0 ?_
  refine z_iconst (nI 0) (by decide) dL_fit_2 ?_
  refine z_aload_n rfl rfl dL_fit_3 ?_
  refine z_iload_n rfl rfl dL_fit_4 ?_
  refine z_iload_n rfl rfl dL_fit_5 ?_
  refine z_iload_n rfl rfl dL_fit_6 ?_
  refine z_callVx (as := [.int (p0), .int (p1), .int (p2)]) h ko_X7_fit kl_L_77 rfl (zl_a rfl rfl) rfl rfl ⟨by decide, by decide, by decide, by decide⟩ (by decide) rfl dL_fit_7 ?_
  refine zX_catch (hp := 19) (i := 5) (ls1 := [.ref (1), .int (p0), .int (p1), .int (p2), .ref (145), .null]) [(0, 12, 15, 13)] (0, 12, 19, 15) [] rfl (List.forall_mem_cons.mpr ⟨⟨by decide, "java/lang/IndexOutOfBoundsException", zG_in 215 (by decide +kernel) rfl, by decide⟩, (fun _ h => by cases h)⟩) (by decide) rfl (by decide) (zG_in 216 (by decide +kernel) rfl) (by decide) (by decide) rfl dL_fit_19 ?_
  refine z_iconst (nI 2) (by decide) dL_fit_21 ?_
  exact z_iret (rfl) rfl (znarI _) (by decide) (by decide) dL_fit_22
set_option maxRecDepth 100000 in
set_option maxHeartbeats 4000000 in
theorem w_shared {E : Nat × (Nat → Int32)} {μ : Nat → Nat → Int32} {g : Int64} {p0 p1 p2 : Int32} {v : Int32} {μ1 : zMu} (h : zCt E kX7_shared [.ref (1), .int (p0), .int (p1), .int (p2)] (zm μ g) (.inl (some (.int v)), zm μ1 g)) : zCt E kL_shared [.ref (1), .int (p0), .int (p1), .int (p2), .ref (145)] (zm μ g) (.inl (some (.int (nI 0))), zm μ1 v.toInt64) := by
  refine zCt_of ko_L_shared (Nat.le_of_ble_eq_true rfl) (zas_r (zas_i (zas_i (zas_i (zas_r zas_0))))) ⟨Nat.le_refl _, fun h => absurd h (Nat.lt_irrefl _)⟩ (Nat.le_of_ble_eq_true rfl) ?_
  show zV false E kL_shared 145 _ 0 [.ref (1), .int (p0), .int (p1), .int (p2), .ref (145), .null] [] (zm μ g) 0 0
  refine z_aload rfl dL_shared_0 ?_
  refine z_iconst (nI 0) (by decide) dL_shared_2 ?_
  refine z_aload_n rfl rfl dL_shared_3 ?_
  refine z_iload_n rfl rfl dL_shared_4 ?_
  refine z_iload_n rfl rfl dL_shared_5 ?_
  refine z_iload_n rfl rfl dL_shared_6 ?_
  refine z_callV (as := [.int (p0), .int (p1), .int (p2)]) h ko_X7_shared kl_L_80 rfl (zl_a rfl rfl) rfl rfl ⟨by decide, by decide, by decide, by decide⟩ (Nat.le_of_ble_eq_true rfl) rfl dL_shared_7 ?_
  refine z_i2l dL_shared_10 ?_
  refine z_last (zl_a rfl rfl) zκ_one rfl dL_shared_11 ?_
  refine z_goto 19 (by decide) dL_shared_12 ?_
  refine z_iconst (nI 0) (by decide) dL_shared_19 ?_
  exact z_iret (rfl) rfl (znarI _) (by decide) (by decide) dL_shared_20
set_option maxRecDepth 100000 in
set_option maxHeartbeats 4000000 in
theorem wI_shared {E : Nat × (Nat → Int32)} {μ : Nat → Nat → Int32} {g : Int64} {p0 p1 p2 : Int32} (h : zCt E kX7_shared [.ref (1), .int (p0), .int (p1), .int (p2)] (zm μ g) (.inr xI, zm μ g)) : zCt E kL_shared [.ref (1), .int (p0), .int (p1), .int (p2), .ref (145)] (zm μ g) (.inl (some (.int (nI 1))), zm μ g) := by
  refine zCt_of ko_L_shared (Nat.le_of_ble_eq_true rfl) (zas_r (zas_i (zas_i (zas_i (zas_r zas_0))))) ⟨Nat.le_refl _, fun h => absurd h (Nat.lt_irrefl _)⟩ (Nat.le_of_ble_eq_true rfl) ?_
  show zV false E kL_shared 145 _ 0 [.ref (1), .int (p0), .int (p1), .int (p2), .ref (145), .null] [] (zm μ g) 0 0
  refine z_aload rfl dL_shared_0 ?_
  refine z_iconst (nI 0) (by decide) dL_shared_2 ?_
  refine z_aload_n rfl rfl dL_shared_3 ?_
  refine z_iload_n rfl rfl dL_shared_4 ?_
  refine z_iload_n rfl rfl dL_shared_5 ?_
  refine z_iload_n rfl rfl dL_shared_6 ?_
  refine z_callVx (as := [.int (p0), .int (p1), .int (p2)]) h ko_X7_shared kl_L_80 rfl (zl_a rfl rfl) rfl rfl ⟨by decide, by decide, by decide, by decide⟩ (by decide) rfl dL_shared_7 ?_
  refine zX_catch (hp := 15) (i := 5) (ls1 := [.ref (1), .int (p0), .int (p1), .int (p2), .ref (145), .null]) [] (0, 12, 15, 13) [] rfl (fun _ h => by cases h) (by decide) rfl (by decide) (zG_in 215 (by decide +kernel) rfl) (by decide) (by decide) rfl dL_shared_15 ?_
  refine z_iconst (nI 1) (by decide) dL_shared_17 ?_
  exact z_iret (rfl) rfl (znarI _) (by decide) (by decide) dL_shared_18
set_option maxRecDepth 100000 in
set_option maxHeartbeats 4000000 in
theorem w_kin {E : Nat × (Nat → Int32)} {μ : Nat → Nat → Int32} {g : Int64} {p0 p1 : Int32} {v : Int32} {μ1 : zMu} (h : zCt E kX7_kin [.ref (1), .int (p0), .int (p1)] (zm μ g) (.inl (some (.int v)), zm μ1 g)) : zCt E kL_kin [.ref (1), .int (p0), .int (p1), .ref (145)] (zm μ g) (.inl (some (.int (nI 0))), zm μ1 v.toInt64) := by
  refine zCt_of ko_L_kin (Nat.le_of_ble_eq_true rfl) (zas_r (zas_i (zas_i (zas_r zas_0)))) ⟨Nat.le_refl _, fun h => absurd h (Nat.lt_irrefl _)⟩ (Nat.le_of_ble_eq_true rfl) ?_
  show zV false E kL_kin 145 _ 0 [.ref (1), .int (p0), .int (p1), .ref (145), .null] [] (zm μ g) 0 0
  refine z_aload_n rfl rfl dL_kin_0 ?_
  refine z_iconst (nI 0) (by decide) dL_kin_1 ?_
  refine z_aload_n rfl rfl dL_kin_2 ?_
  refine z_iload_n rfl rfl dL_kin_3 ?_
  refine z_iload_n rfl rfl dL_kin_4 ?_
  refine z_callV (as := [.int (p0), .int (p1)]) h ko_X7_kin kl_L_83 rfl (zl_a rfl rfl) rfl rfl ⟨by decide, by decide, by decide, by decide⟩ (Nat.le_of_ble_eq_true rfl) rfl dL_kin_5 ?_
  refine z_i2l dL_kin_8 ?_
  refine z_last (zl_a rfl rfl) zκ_one rfl dL_kin_9 ?_
  refine z_goto 17 (by decide) dL_kin_10 ?_
  refine z_iconst (nI 0) (by decide) dL_kin_17 ?_
  exact z_iret (rfl) rfl (znarI _) (by decide) (by decide) dL_kin_18
set_option maxRecDepth 100000 in
set_option maxHeartbeats 4000000 in
theorem wI_kin {E : Nat × (Nat → Int32)} {μ : Nat → Nat → Int32} {g : Int64} {p0 p1 : Int32} (h : zCt E kX7_kin [.ref (1), .int (p0), .int (p1)] (zm μ g) (.inr xI, zm μ g)) : zCt E kL_kin [.ref (1), .int (p0), .int (p1), .ref (145)] (zm μ g) (.inl (some (.int (nI 1))), zm μ g) := by
  refine zCt_of ko_L_kin (Nat.le_of_ble_eq_true rfl) (zas_r (zas_i (zas_i (zas_r zas_0)))) ⟨Nat.le_refl _, fun h => absurd h (Nat.lt_irrefl _)⟩ (Nat.le_of_ble_eq_true rfl) ?_
  show zV false E kL_kin 145 _ 0 [.ref (1), .int (p0), .int (p1), .ref (145), .null] [] (zm μ g) 0 0
  refine z_aload_n rfl rfl dL_kin_0 ?_
  refine z_iconst (nI 0) (by decide) dL_kin_1 ?_
  refine z_aload_n rfl rfl dL_kin_2 ?_
  refine z_iload_n rfl rfl dL_kin_3 ?_
  refine z_iload_n rfl rfl dL_kin_4 ?_
  refine z_callVx (as := [.int (p0), .int (p1)]) h ko_X7_kin kl_L_83 rfl (zl_a rfl rfl) rfl rfl ⟨by decide, by decide, by decide, by decide⟩ (by decide) rfl dL_kin_5 ?_
  refine zX_catch (hp := 13) (i := 4) (ls1 := [.ref (1), .int (p0), .int (p1), .ref (145), .null]) [] (0, 10, 13, 13) [] rfl (fun _ h => by cases h) (by decide) rfl (by decide) (zG_in 215 (by decide +kernel) rfl) (by decide) (by decide) rfl dL_kin_13 ?_
  refine z_iconst (nI 1) (by decide) dL_kin_15 ?_
  exact z_iret (rfl) rfl (znarI _) (by decide) (by decide) dL_kin_16
set_option maxRecDepth 100000 in
set_option maxHeartbeats 4000000 in
theorem w_date {E : Nat × (Nat → Int32)} {μ : Nat → Nat → Int32} {g : Int64} {p0 p1 : Int32} {v : Int32} {μ1 : zMu} (h : zCt E kX7_date [.ref (1), .int (p0), .int (p1)] (zm μ g) (.inl (some (.int v)), zm μ1 g)) : zCt E kL_date [.ref (1), .int (p0), .int (p1), .ref (145)] (zm μ g) (.inl (some (.int (nI 0))), zm μ1 v.toInt64) := by
  refine zCt_of ko_L_date (Nat.le_of_ble_eq_true rfl) (zas_r (zas_i (zas_i (zas_r zas_0)))) ⟨Nat.le_refl _, fun h => absurd h (Nat.lt_irrefl _)⟩ (Nat.le_of_ble_eq_true rfl) ?_
  show zV false E kL_date 145 _ 0 [.ref (1), .int (p0), .int (p1), .ref (145), .null] [] (zm μ g) 0 0
  refine z_aload_n rfl rfl dL_date_0 ?_
  refine z_iconst (nI 0) (by decide) dL_date_1 ?_
  refine z_aload_n rfl rfl dL_date_2 ?_
  refine z_iload_n rfl rfl dL_date_3 ?_
  refine z_iload_n rfl rfl dL_date_4 ?_
  refine z_callV (as := [.int (p0), .int (p1)]) h ko_X7_date kl_L_86 rfl (zl_a rfl rfl) rfl rfl ⟨by decide, by decide, by decide, by decide⟩ (Nat.le_of_ble_eq_true rfl) rfl dL_date_5 ?_
  refine z_i2l dL_date_8 ?_
  refine z_last (zl_a rfl rfl) zκ_one rfl dL_date_9 ?_
  refine z_goto 17 (by decide) dL_date_10 ?_
  refine z_iconst (nI 0) (by decide) dL_date_17 ?_
  exact z_iret (rfl) rfl (znarI _) (by decide) (by decide) dL_date_18
set_option maxRecDepth 100000 in
set_option maxHeartbeats 4000000 in
theorem wI_date {E : Nat × (Nat → Int32)} {μ : Nat → Nat → Int32} {g : Int64} {p0 p1 : Int32} (h : zCt E kX7_date [.ref (1), .int (p0), .int (p1)] (zm μ g) (.inr xI, zm μ g)) : zCt E kL_date [.ref (1), .int (p0), .int (p1), .ref (145)] (zm μ g) (.inl (some (.int (nI 1))), zm μ g) := by
  refine zCt_of ko_L_date (Nat.le_of_ble_eq_true rfl) (zas_r (zas_i (zas_i (zas_r zas_0)))) ⟨Nat.le_refl _, fun h => absurd h (Nat.lt_irrefl _)⟩ (Nat.le_of_ble_eq_true rfl) ?_
  show zV false E kL_date 145 _ 0 [.ref (1), .int (p0), .int (p1), .ref (145), .null] [] (zm μ g) 0 0
  refine z_aload_n rfl rfl dL_date_0 ?_
  refine z_iconst (nI 0) (by decide) dL_date_1 ?_
  refine z_aload_n rfl rfl dL_date_2 ?_
  refine z_iload_n rfl rfl dL_date_3 ?_
  refine z_iload_n rfl rfl dL_date_4 ?_
  refine z_callVx (as := [.int (p0), .int (p1)]) h ko_X7_date kl_L_86 rfl (zl_a rfl rfl) rfl rfl ⟨by decide, by decide, by decide, by decide⟩ (by decide) rfl dL_date_5 ?_
  refine zX_catch (hp := 13) (i := 4) (ls1 := [.ref (1), .int (p0), .int (p1), .ref (145), .null]) [] (0, 10, 13, 13) [] rfl (fun _ h => by cases h) (by decide) rfl (by decide) (zG_in 215 (by decide +kernel) rfl) (by decide) (by decide) rfl dL_date_13 ?_
  refine z_iconst (nI 1) (by decide) dL_date_15 ?_
  exact z_iret (rfl) rfl (znarI _) (by decide) (by decide) dL_date_16
