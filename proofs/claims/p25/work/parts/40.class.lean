/-! the class: small methods (printed by wip/whole/gen_a.py) -/
set_option maxRecDepth 100000 in
set_option maxHeartbeats 4000000 in
theorem ct_X7_isWithin {E : Nat × (Nat → Int32)} {μ : Nat → Nat → Int32} {g : zLw} (v e : Int32) : zCt E kX7_isWithin [.int (v), .int (e)] (zm μ g) (.inl (some (.int (zb (zin v e)))), zm μ g) := by
  refine zCt_of ko_X7_isWithin (Nat.le_of_ble_eq_true rfl) (zas_i (zas_i zas_0)) ⟨Nat.le_refl _, fun h => absurd h (Nat.lt_irrefl _)⟩ (Nat.le_of_ble_eq_true rfl) ?_
  show zV false E kX7_isWithin 116 _ 0 [.int (v), .int (e)] [] (zm μ g) 0 0
  refine z_iload_n rfl rfl dX7_isWithin_0 ?_
  refine z_iload_n rfl rfl dX7_isWithin_1 ?_
  refine z_ineg dX7_isWithin_2 ?_
  refine z_icmp_lt 15 (by decide) dX7_isWithin_3 (fun h1 => ?_) (fun h2 => ?_)
  · refine z_iconst (nI 0) (by decide) dX7_isWithin_15 ?_
    exact z_iret (zleafF (by simp_all)) rfl rfl (by decide) (by decide) dX7_isWithin_16
  · refine z_iload_n rfl rfl dX7_isWithin_6 ?_
    refine z_iload_n rfl rfl dX7_isWithin_7 ?_
    refine z_icmp_gt 15 (by decide) dX7_isWithin_8 (fun h3 => ?_) (fun h4 => ?_)
    · refine z_iconst (nI 0) (by decide) dX7_isWithin_15 ?_
      exact z_iret (zleafF (by simp_all)) rfl rfl (by decide) (by decide) dX7_isWithin_16
    · refine z_iconst (nI 1) (by decide) dX7_isWithin_11 ?_
      refine z_goto 16 (by decide) dX7_isWithin_12 ?_
      exact z_iret (zleafT (by and_intros <;> assumption)) rfl rfl (by decide) (by decide) dX7_isWithin_16
set_option maxRecDepth 100000 in
set_option maxHeartbeats 4000000 in
theorem ct_X7_isName {E : Nat × (Nat → Int32)} {μ : Nat → Nat → Int32} {g : zLw} (v : Int32) : zCt E kX7_isName [.int (v)] (zm μ g) (.inl (some (.int (zb (znm v)))), zm μ g) := by
  refine zCt_of ko_X7_isName (Nat.le_of_ble_eq_true rfl) (zas_i zas_0) ⟨Nat.le_refl _, fun h => absurd h (Nat.lt_irrefl _)⟩ (Nat.le_of_ble_eq_true rfl) ?_
  show zV false E kX7_isName 116 _ 0 [.int (v)] [] (zm μ g) 0 0
  refine z_iload_n rfl rfl dX7_isName_0 ?_
  refine z_iconst (nI 1) (by decide) dX7_isName_1 ?_
  refine z_icmp_lt 15 (by decide) dX7_isName_2 (fun h1 => ?_) (fun h2 => ?_)
  · refine z_iconst (nI 0) (by decide) dX7_isName_15 ?_
    exact z_iret (zleafF (by simp_all)) rfl rfl (by decide) (by decide) dX7_isName_16
  · refine z_iload_n rfl rfl dX7_isName_5 ?_
    refine z_bipush (nI 99) (by decide) dX7_isName_6 ?_
    refine z_icmp_gt 15 (by decide) dX7_isName_8 (fun h3 => ?_) (fun h4 => ?_)
    · refine z_iconst (nI 0) (by decide) dX7_isName_15 ?_
      exact z_iret (zleafF (by simp_all)) rfl rfl (by decide) (by decide) dX7_isName_16
    · refine z_iconst (nI 1) (by decide) dX7_isName_11 ?_
      refine z_goto 16 (by decide) dX7_isName_12 ?_
      exact z_iret (zleafT (by and_intros <;> assumption)) rfl rfl (by decide) (by decide) dX7_isName_16
set_option maxRecDepth 100000 in
set_option maxHeartbeats 4000000 in
theorem ct_X7_isYear {E : Nat × (Nat → Int32)} {μ : Nat → Nat → Int32} {g : zLw} (v : Int32) : zCt E kX7_isYear [.int (v)] (zm μ g) (.inl (some (.int (zb (zyr v)))), zm μ g) := by
  refine zCt_of ko_X7_isYear (Nat.le_of_ble_eq_true rfl) (zas_i zas_0) ⟨Nat.le_refl _, fun h => absurd h (Nat.lt_irrefl _)⟩ (Nat.le_of_ble_eq_true rfl) ?_
  show zV false E kX7_isYear 116 _ 0 [.int (v)] [] (zm μ g) 0 0
  refine z_iload_n rfl rfl dX7_isYear_0 ?_
  refine z_if_lt 15 (by decide) dX7_isYear_1 (fun h1 => ?_) (fun h2 => ?_)
  · refine z_iconst (nI 0) (by decide) dX7_isYear_15 ?_
    exact z_iret (zleafF (by simp_all)) rfl rfl (by decide) (by decide) dX7_isYear_16
  · refine z_iload_n rfl rfl dX7_isYear_4 ?_
    refine z_sipush (nI 2000) (by decide) dX7_isYear_5 ?_
    refine z_icmp_gt 15 (by decide) dX7_isYear_8 (fun h3 => ?_) (fun h4 => ?_)
    · refine z_iconst (nI 0) (by decide) dX7_isYear_15 ?_
      exact z_iret (zleafF (by simp_all)) rfl rfl (by decide) (by decide) dX7_isYear_16
    · refine z_iconst (nI 1) (by decide) dX7_isYear_11 ?_
      refine z_goto 16 (by decide) dX7_isYear_12 ?_
      exact z_iret (zleafT (by and_intros <;> assumption)) rfl rfl (by decide) (by decide) dX7_isYear_16
set_option maxRecDepth 100000 in
set_option maxHeartbeats 4000000 in
theorem ct_X7_firstOf {E : Nat × (Nat → Int32)} {μ : Nat → Nat → Int32} {g : zLw} (b : Nat) : zCt E kX7_firstOf [.int (nI b)] (zm μ g) (.inl (some (.int (nI (b * 8)))), zm μ g) := by
  refine zCt_of ko_X7_firstOf (Nat.le_of_ble_eq_true rfl) (zas_i zas_0) ⟨Nat.le_refl _, fun h => absurd h (Nat.lt_irrefl _)⟩ (Nat.le_of_ble_eq_true rfl) ?_
  show zV false E kX7_firstOf 116 _ 0 [.int (nI b)] [] (zm μ g) 0 0
  refine z_iload_n rfl rfl dX7_firstOf_0 ?_
  refine z_bipush (nI 8) (by decide) dX7_firstOf_1 ?_
  refine m_mulN dX7_firstOf_3 ?_
  exact z_iret (rfl) rfl (znarI _) (by decide) (by decide) dX7_firstOf_4
set_option maxRecDepth 100000 in
set_option maxHeartbeats 4000000 in
theorem ct_X7_lastOf {E : Nat × (Nat → Int32)} {μ : Nat → Nat → Int32} {g : zLw} (b : Nat) : zCt E kX7_lastOf [.int (nI b)] (zm μ g) (.inl (some (.int (nI (b * 8 + 8 - 1)))), zm μ g) := by
  refine zCt_of ko_X7_lastOf (Nat.le_of_ble_eq_true rfl) (zas_i zas_0) ⟨Nat.le_refl _, fun h => absurd h (Nat.lt_irrefl _)⟩ (Nat.le_of_ble_eq_true rfl) ?_
  show zV false E kX7_lastOf 116 _ 0 [.int (nI b)] [] (zm μ g) 0 0
  refine z_iload_n rfl rfl dX7_lastOf_0 ?_
  refine z_callS (as := [.int (nI b)]) (ct_X7_firstOf b) ko_X7_firstOf kl_X7_284 rfl rfl ⟨by decide, by decide, by decide, by decide⟩ (by decide) rfl dX7_lastOf_1 ?_
  refine z_bipush (nI 8) (by decide) dX7_lastOf_4 ?_
  refine m_addN dX7_lastOf_6 ?_
  refine z_iconst (nI 1) (by decide) dX7_lastOf_7 ?_
  refine m_subN (by omega) dX7_lastOf_8 ?_
  exact z_iret (rfl) rfl (znarI _) (by decide) (by decide) dX7_lastOf_9
set_option maxRecDepth 100000 in
set_option maxHeartbeats 4000000 in
theorem ct_X7_needPoint {E : Nat × (Nat → Int32)} {μ : Nat → Nat → Int32} {g : zLw} {j : Nat} (hj : j < 24) : zCt E kX7_needPoint [.int (nI j)] (zm μ g) (.inl none, zm μ g) := by
  refine zCt_of ko_X7_needPoint (Nat.le_of_ble_eq_true rfl) (zas_i zas_0) ⟨Nat.le_refl _, fun h => absurd h (Nat.lt_irrefl _)⟩ (Nat.le_of_ble_eq_true rfl) ?_
  show zV false E kX7_needPoint 116 _ 0 [.int (nI j)] [] (zm μ g) 0 0
  refine z_iload_n rfl rfl dX7_needPoint_0 ?_
  refine z_if_lt 10 (by decide) dX7_needPoint_1 (fun h => absurd h (nI_pos (n := j) (by omega))) (fun _ => ?_)
  refine z_iload_n rfl rfl dX7_needPoint_4 ?_
  refine z_bipush (nI 24) (by decide) dX7_needPoint_5 ?_
  refine z_icmp_lt 21 (by decide) dX7_needPoint_7 (z_br (zcn (n := j) (by omega) (24) (by omega)).2.1 (fun h3 => ?_)) (z_brn (zcn (n := j) (by omega) (24) (by omega)).2.1 (fun h4 => ?_))
  · exact z_vret (rfl) rfl (by decide) (by decide) dX7_needPoint_21
  · omega
set_option maxRecDepth 100000 in
set_option maxHeartbeats 4000000 in
theorem ctx_X7_needPoint {E : Nat × (Nat → Int32)} {μ : Nat → Nat → Int32} {g : zLw} {p : Int32} (hp : ¬ zrg 24 p) : zCt E kX7_needPoint [.int (p)] (zm μ g) (.inr xI, zm μ g) := by
  refine zCt_of ko_X7_needPoint (Nat.le_of_ble_eq_true rfl) (zas_i zas_0) ⟨Nat.le_refl _, fun h => absurd h (Nat.lt_irrefl _)⟩ (Nat.le_of_ble_eq_true rfl) ?_
  show zV false E kX7_needPoint 116 _ 0 [.int (p)] [] (zm μ g) 0 0
  refine z_iload_n rfl rfl dX7_needPoint_0 ?_
  refine z_if_lt 10 (by decide) dX7_needPoint_1 (fun h1 => ?_) (fun h2 => ?_)
  · exact z_throwW (text := "no such point") (rfl) kt_116 (by decide +kernel) rfl (by decide) (by decide) (by decide) (by decide) dX7_needPoint_10 dX7_needPoint_13 dX7_needPoint_14 dX7_needPoint_17 dX7_needPoint_20
  · refine z_iload_n rfl rfl dX7_needPoint_4 ?_
    refine z_bipush (nI 24) (by decide) dX7_needPoint_5 ?_
    refine z_icmp_lt 21 (by decide) dX7_needPoint_7 (fun h3 => ?_) (fun h4 => ?_)
    · exact absurd ⟨h2, h3⟩ hp
    · exact z_throwW (text := "no such point") (rfl) kt_116 (by decide +kernel) rfl (by decide) (by decide) (by decide) (by decide) dX7_needPoint_10 dX7_needPoint_13 dX7_needPoint_14 dX7_needPoint_17 dX7_needPoint_20
set_option maxRecDepth 100000 in
set_option maxHeartbeats 4000000 in
theorem ct_X7_needBasin {E : Nat × (Nat → Int32)} {μ : Nat → Nat → Int32} {g : zLw} {j : Nat} (hj : j < 3) : zCt E kX7_needBasin [.int (nI j)] (zm μ g) (.inl none, zm μ g) := by
  refine zCt_of ko_X7_needBasin (Nat.le_of_ble_eq_true rfl) (zas_i zas_0) ⟨Nat.le_refl _, fun h => absurd h (Nat.lt_irrefl _)⟩ (Nat.le_of_ble_eq_true rfl) ?_
  show zV false E kX7_needBasin 116 _ 0 [.int (nI j)] [] (zm μ g) 0 0
  refine z_iload_n rfl rfl dX7_needBasin_0 ?_
  refine z_if_lt 9 (by decide) dX7_needBasin_1 (fun h => absurd h (nI_pos (n := j) (by omega))) (fun _ => ?_)
  refine z_iload_n rfl rfl dX7_needBasin_4 ?_
  refine z_iconst (nI 3) (by decide) dX7_needBasin_5 ?_
  refine z_icmp_lt 20 (by decide) dX7_needBasin_6 (z_br (zcn (n := j) (by omega) (3) (by omega)).2.1 (fun h3 => ?_)) (z_brn (zcn (n := j) (by omega) (3) (by omega)).2.1 (fun h4 => ?_))
  · exact z_vret (rfl) rfl (by decide) (by decide) dX7_needBasin_20
  · omega
set_option maxRecDepth 100000 in
set_option maxHeartbeats 4000000 in
theorem ctx_X7_needBasin {E : Nat × (Nat → Int32)} {μ : Nat → Nat → Int32} {g : zLw} {p : Int32} (hp : ¬ zrg 3 p) : zCt E kX7_needBasin [.int (p)] (zm μ g) (.inr xI, zm μ g) := by
  refine zCt_of ko_X7_needBasin (Nat.le_of_ble_eq_true rfl) (zas_i zas_0) ⟨Nat.le_refl _, fun h => absurd h (Nat.lt_irrefl _)⟩ (Nat.le_of_ble_eq_true rfl) ?_
  show zV false E kX7_needBasin 116 _ 0 [.int (p)] [] (zm μ g) 0 0
  refine z_iload_n rfl rfl dX7_needBasin_0 ?_
  refine z_if_lt 9 (by decide) dX7_needBasin_1 (fun h1 => ?_) (fun h2 => ?_)
  · exact z_throwW (text := "no such basin") (rfl) kt_116 (by decide +kernel) rfl (by decide) (by decide) (by decide) (by decide) dX7_needBasin_9 dX7_needBasin_12 dX7_needBasin_13 dX7_needBasin_16 dX7_needBasin_19
  · refine z_iload_n rfl rfl dX7_needBasin_4 ?_
    refine z_iconst (nI 3) (by decide) dX7_needBasin_5 ?_
    refine z_icmp_lt 20 (by decide) dX7_needBasin_6 (fun h3 => ?_) (fun h4 => ?_)
    · exact absurd ⟨h2, h3⟩ hp
    · exact z_throwW (text := "no such basin") (rfl) kt_116 (by decide +kernel) rfl (by decide) (by decide) (by decide) (by decide) dX7_needBasin_9 dX7_needBasin_12 dX7_needBasin_13 dX7_needBasin_16 dX7_needBasin_19
set_option maxRecDepth 100000 in
set_option maxHeartbeats 4000000 in
theorem ct_X0_knows {E : Nat × (Nat → Int32)} {μ : Nat → Nat → Int32} {g : zLw} {c p : Nat} (hc : c < 12) (hp : p < 24) : zCt E kX0_knows [.ref (33 + 7 * c), .int (nI p)] (zm μ g) (.inl (some (.int (zb (zkn μ c p)))), zm μ g) := by
  refine zCt_of ko_X0_knows (Nat.le_of_ble_eq_true rfl) (zas_r (zas_i zas_0)) ⟨Nat.le_refl _, fun h => absurd h (Nat.lt_irrefl _)⟩ (Nat.le_of_ble_eq_true rfl) ?_
  show zV false E kX0_knows 116 _ 0 [.ref (33 + 7 * c), .int (nI p)] [] (zm μ g) 0 0
  refine z_aload_n rfl rfl dX0_knows_0 ?_
  refine m_getR (34 + 7 * c) kf_X0_15 (zc0 (by omega)) rfl (zl_rc (by omega)).1 (by omega) dX0_knows_1 ?_
  refine z_iload_n rfl rfl dX0_knows_4 ?_
  refine m_iald (p) (zc1 (by omega)) rfl (by omega) (by decide) dX0_knows_5 ?_
  refine z_ldc (100000) kc_X0_35 dX0_knows_6 ?_
  refine z_icmp_eq 15 (by decide) dX0_knows_8 (fun h1 => ?_) (fun h2 => ?_)
  · refine z_iconst (nI 0) (by decide) dX0_knows_15 ?_
    exact z_iret (zleafF (fun q => q h1)) rfl rfl (by decide) (by decide) dX0_knows_16
  · refine z_iconst (nI 1) (by decide) dX0_knows_11 ?_
    refine z_goto 16 (by decide) dX0_knows_12 ?_
    exact z_iret (zleafT h2) rfl rfl (by decide) (by decide) dX0_knows_16
set_option maxRecDepth 100000 in
set_option maxHeartbeats 4000000 in
theorem ct_X0_put {E : Nat × (Nat → Int32)} {μ : Nat → Nat → Int32} {g : zLw} {c p : Nat} (hc : c < 12) (hp : p < 24) (x y f : Int32) : zCt E kX0_put [.ref (33 + 7 * c), .int (nI p), .int (x), .int (y), .int (f)] (zm μ g) (.inl none, zm (zput μ c p x y f) g) := by
  refine zCt_of ko_X0_put (Nat.le_of_ble_eq_true rfl) (zas_r (zas_i (zas_i (zas_i (zas_i zas_0))))) ⟨Nat.le_refl _, fun h => absurd h (Nat.lt_irrefl _)⟩ (Nat.le_of_ble_eq_true rfl) ?_
  show zV false E kX0_put 116 _ 0 [.ref (33 + 7 * c), .int (nI p), .int (x), .int (y), .int (f)] [] (zm μ g) 0 0
  refine z_aload_n rfl rfl dX0_put_0 ?_
  refine m_getR (34 + 7 * c) kf_X0_15 (zc0 (by omega)) rfl (zl_rc (by omega)).1 (by omega) dX0_put_1 ?_
  refine z_iload_n rfl rfl dX0_put_4 ?_
  refine z_iload_n rfl rfl dX0_put_5 ?_
  refine m_iast (p) (zc1 (by omega)) rfl (by omega) (by decide) dX0_put_6 ?_
  refine z_aload_n rfl rfl dX0_put_7 ?_
  refine m_getR (35 + 7 * c) kf_X0_19 (zc0 (by omega)) rfl (zl_rc (by omega)).2.1 (by omega) dX0_put_8 ?_
  refine z_iload_n rfl rfl dX0_put_11 ?_
  refine z_iload_n rfl rfl dX0_put_12 ?_
  refine m_iast (p) (zc2 (by omega)) rfl (by omega) (by decide) dX0_put_13 ?_
  refine z_aload_n rfl rfl dX0_put_14 ?_
  refine m_getR (37 + 7 * c) kf_X0_25 (zc0 (by omega)) rfl (zl_rc (by omega)).2.2.2.1 (by omega) dX0_put_15 ?_
  refine z_iload_n rfl rfl dX0_put_18 ?_
  refine z_iload rfl dX0_put_19 ?_
  refine m_iast (p) (zc4 (by omega)) rfl (by omega) (by decide) dX0_put_21 ?_
  exact z_vret (rfl) rfl (by decide) (by decide) dX0_put_22
set_option maxRecDepth 100000 in
set_option maxHeartbeats 4000000 in
theorem ct_X0_forget {E : Nat × (Nat → Int32)} {μ : Nat → Nat → Int32} {g : zLw} {c p : Nat} (hc : c < 12) (hp : p < 24) : zCt E kX0_forget [.ref (33 + 7 * c), .int (nI p)] (zm μ g) (.inl none, zm (zput μ c p 100000 100000 (-1)) g) := by
  refine zCt_of ko_X0_forget (Nat.le_of_ble_eq_true rfl) (zas_r (zas_i zas_0)) ⟨Nat.le_refl _, fun h => absurd h (Nat.lt_irrefl _)⟩ (Nat.le_of_ble_eq_true rfl) ?_
  show zV false E kX0_forget 116 _ 0 [.ref (33 + 7 * c), .int (nI p)] [] (zm μ g) 0 0
  refine z_aload_n rfl rfl dX0_forget_0 ?_
  refine z_iload_n rfl rfl dX0_forget_1 ?_
  refine z_ldc (100000) kc_X0_35 dX0_forget_2 ?_
  refine z_ldc (100000) kc_X0_35 dX0_forget_4 ?_
  refine z_iconst (-1) (by decide) dX0_forget_6 ?_
  refine z_callV (as := [.int (nI p), .int (100000), .int (100000), .int (-1)]) (ct_X0_put (c := c) (p := p) (by omega) (by omega) (100000) (100000) (-1)) ko_X0_put kl_X0_36 rfl (zc0 (by omega)) rfl rfl ⟨by decide, by decide, by decide, by decide⟩ (by decide) rfl dX0_forget_7 ?_
  exact z_vret (rfl) rfl (by decide) (by decide) dX0_forget_10
set_option maxRecDepth 100000 in
set_option maxHeartbeats 4000000 in
theorem ct_X0_shrunk {E : Nat × (Nat → Int32)} {μ : Nat → Nat → Int32} {g : zLw} (x h : Int32) : zCt E kX0_shrunk [.int (x), .int (h)] (zm μ g) (.inl (some (.int (x * h / nI 100))), zm μ g) := by
  refine zCt_of ko_X0_shrunk (Nat.le_of_ble_eq_true rfl) (zas_i (zas_i zas_0)) ⟨Nat.le_refl _, fun h => absurd h (Nat.lt_irrefl _)⟩ (Nat.le_of_ble_eq_true rfl) ?_
  show zV false E kX0_shrunk 116 _ 0 [.int (x), .int (h)] [] (zm μ g) 0 0
  refine z_iload_n rfl rfl dX0_shrunk_0 ?_
  refine z_iload_n rfl rfl dX0_shrunk_1 ?_
  refine z_imul dX0_shrunk_2 ?_
  refine z_bipush (nI 100) (by decide) dX0_shrunk_3 ?_
  refine z_idiv (by decide) dX0_shrunk_5 ?_
  exact z_iret (rfl) rfl (znarI _) (by decide) (by decide) dX0_shrunk_6
set_option maxRecDepth 100000 in
set_option maxHeartbeats 4000000 in
theorem ct_X0_isPlace {E : Nat × (Nat → Int32)} {μ : Nat → Nat → Int32} {g : zLw} (x y : Int32) : zCt E kX0_isPlace [.int (x), .int (y)] (zm μ g) (.inl (some (.int (zb (zin x (nI 9999) ∧ zin y (nI 9999))))), zm μ g) := by
  refine zCt_of ko_X0_isPlace (Nat.le_of_ble_eq_true rfl) (zas_i (zas_i zas_0)) ⟨Nat.le_refl _, fun h => absurd h (Nat.lt_irrefl _)⟩ (Nat.le_of_ble_eq_true rfl) ?_
  show zV false E kX0_isPlace 116 _ 0 [.int (x), .int (y)] [] (zm μ g) 0 0
  refine z_iload_n rfl rfl dX0_isPlace_0 ?_
  refine z_sipush (nI 9999) (by decide) dX0_isPlace_1 ?_
  refine z_callSN (as := [.int (x), .int (nI 9999)]) (ct_X7_isWithin (x) (nI 9999)) ko_X7_isWithin kl_X0_63 rfl rfl ⟨by decide, by decide, by decide, by decide⟩ (by decide) rfl dX0_isPlace_4 ?_
  refine z_if_eq 24 (by decide) dX0_isPlace_7 (z_br zb_0 (fun h1 => ?_)) (z_br zb_n (fun h2 => ?_))
  · refine z_iconst (nI 0) (by decide) dX0_isPlace_24 ?_
    exact z_iret (zleafF (fun q => by first | exact absurd q.1 (by assumption) | exact absurd q.2 (by assumption))) rfl rfl (by decide) (by decide) dX0_isPlace_25
  · refine z_iload_n rfl rfl dX0_isPlace_10 ?_
    refine z_sipush (nI 9999) (by decide) dX0_isPlace_11 ?_
    refine z_callSN (as := [.int (y), .int (nI 9999)]) (ct_X7_isWithin (y) (nI 9999)) ko_X7_isWithin kl_X0_63 rfl rfl ⟨by decide, by decide, by decide, by decide⟩ (by decide) rfl dX0_isPlace_14 ?_
    refine z_if_eq 24 (by decide) dX0_isPlace_17 (z_br zb_0 (fun h3 => ?_)) (z_br zb_n (fun h4 => ?_))
    · refine z_iconst (nI 0) (by decide) dX0_isPlace_24 ?_
      exact z_iret (zleafF (fun q => by first | exact absurd q.1 (by assumption) | exact absurd q.2 (by assumption))) rfl rfl (by decide) (by decide) dX0_isPlace_25
    · refine z_iconst (nI 1) (by decide) dX0_isPlace_20 ?_
      refine z_goto 25 (by decide) dX0_isPlace_21 ?_
      exact z_iret (zleafT ⟨by assumption, by assumption⟩) rfl rfl (by decide) (by decide) dX0_isPlace_25
