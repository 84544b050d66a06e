/-! the reference: methods without loops (printed by wip/whole/gen_h.py) -/
set_option maxRecDepth 100000 in
set_option maxHeartbeats 4000000 in
theorem ctx_X8_coast {E : Nat × (Nat → Int32)} {μ : Nat → Nat → Int32} {g : Int64} {p x y n t : Int32} (hbad : ¬ (zrg 24 p)) : zCt E kX8_coast [.ref (117), .int (p), .int (x), .int (y), .int (n), .int (t)] (zm μ g) (.inl none, zm ((zu μ 117 0 (nI 1))) g) := by
  refine zCt_of ko_X8_coast (Nat.le_of_ble_eq_true rfl) (zas_r (zas_i (zas_i (zas_i (zas_i (zas_i zas_0)))))) ⟨Nat.le_refl _, fun h => absurd h (Nat.lt_irrefl _)⟩ (Nat.le_of_ble_eq_true rfl) ?_
  show zV false E kX8_coast 145 _ 0 [.ref (117), .int (p), .int (x), .int (y), .int (n), .int (t), .null] [] (zm μ g) 0 0
  refine z_iload_n rfl rfl dX8_coast_0 ?_
  refine z_sipush (-500) (by decide) dX8_coast_1 ?_
  refine z_sipush (nI 500) (by decide) dX8_coast_4 ?_
  refine z_callS (as := [.int (x), .int (-500), .int (nI 500)]) (ct_X8_isInS (x) (-500) (nI 500) (by decide)) ko_X8_isIn kl_X8_96 rfl rfl ⟨by decide, by decide, by decide, by decide⟩ (Nat.le_of_ble_eq_true rfl) rfl dX8_coast_7 ?_
  refine z_if_eq 46 (by decide) dX8_coast_10 (z_br zb_0 (fun h1 => ?_)) (z_br zb_n (fun h2 => ?_))
  · refine z_iconst (nI 0) (by decide) dX8_coast_46 ?_
    refine z_istore (by decide) rfl dX8_coast_47 ?_
    refine z_aload_n rfl rfl dX8_coast_49 ?_
    refine z_iload_n rfl rfl dX8_coast_50 ?_
    refine z_callS (as := [.int (p)]) (ctg_X8_isPoint (p)) ko_X8_isPoint kl_X8_113 rfl rfl ⟨by decide, by decide, by decide, by decide⟩ (Nat.le_of_ble_eq_true rfl) rfl dX8_coast_51 ?_
    refine z_if_ne 61 (by decide) dX8_coast_54 (z_br zb_n (fun h3 => ?_)) (z_br zb_0 (fun h4 => ?_))
    · exact absurd (by repeat' (first | assumption | apply And.intro)) hbad
    · refine z_iconst (nI 1) (by decide) dX8_coast_57 ?_
      refine z_goto 82 (by decide) dX8_coast_58 ?_
      refine m_putI kf_X8_92 (zl_a rfl rfl) rfl dX8_coast_82 ?_
      refine z_aload_n rfl rfl dX8_coast_85 ?_
      refine m_getI kf_X8_92 (zl_a rfl rfl) rfl dX8_coast_86 ?_
      refine m_eqv (w := nI 1) (rfl) ?_
      refine z_if_ne 122 (by decide) dX8_coast_89 (fun _ => ?_) (fun h => absurd h (by decide))
      exact z_vret (rfl) rfl (by decide) (by decide) dX8_coast_122
  · refine z_iload_n rfl rfl dX8_coast_13 ?_
    refine z_sipush (-500) (by decide) dX8_coast_14 ?_
    refine z_sipush (nI 500) (by decide) dX8_coast_17 ?_
    refine z_callS (as := [.int (y), .int (-500), .int (nI 500)]) (ct_X8_isInS (y) (-500) (nI 500) (by decide)) ko_X8_isIn kl_X8_96 rfl rfl ⟨by decide, by decide, by decide, by decide⟩ (Nat.le_of_ble_eq_true rfl) rfl dX8_coast_20 ?_
    refine z_if_eq 46 (by decide) dX8_coast_23 (z_br zb_0 (fun h5 => ?_)) (z_br zb_n (fun h6 => ?_))
    · refine z_iconst (nI 0) (by decide) dX8_coast_46 ?_
      refine z_istore (by decide) rfl dX8_coast_47 ?_
      refine z_aload_n rfl rfl dX8_coast_49 ?_
      refine z_iload_n rfl rfl dX8_coast_50 ?_
      refine z_callS (as := [.int (p)]) (ctg_X8_isPoint (p)) ko_X8_isPoint kl_X8_113 rfl rfl ⟨by decide, by decide, by decide, by decide⟩ (Nat.le_of_ble_eq_true rfl) rfl dX8_coast_51 ?_
      refine z_if_ne 61 (by decide) dX8_coast_54 (z_br zb_n (fun h7 => ?_)) (z_br zb_0 (fun h8 => ?_))
      · exact absurd (by repeat' (first | assumption | apply And.intro)) hbad
      · refine z_iconst (nI 1) (by decide) dX8_coast_57 ?_
        refine z_goto 82 (by decide) dX8_coast_58 ?_
        refine m_putI kf_X8_92 (zl_a rfl rfl) rfl dX8_coast_82 ?_
        refine z_aload_n rfl rfl dX8_coast_85 ?_
        refine m_getI kf_X8_92 (zl_a rfl rfl) rfl dX8_coast_86 ?_
        refine m_eqv (w := nI 1) (rfl) ?_
        refine z_if_ne 122 (by decide) dX8_coast_89 (fun _ => ?_) (fun h => absurd h (by decide))
        exact z_vret (rfl) rfl (by decide) (by decide) dX8_coast_122
    · refine z_iload rfl dX8_coast_26 ?_
      refine z_callS (as := [.int (n)]) (ct_X8_isName (n)) ko_X8_isName kl_X8_106 rfl rfl ⟨by decide, by decide, by decide, by decide⟩ (Nat.le_of_ble_eq_true rfl) rfl dX8_coast_28 ?_
      refine z_if_eq 46 (by decide) dX8_coast_31 (z_br zb_0 (fun h9 => ?_)) (z_br zb_n (fun h10 => ?_))
      · refine z_iconst (nI 0) (by decide) dX8_coast_46 ?_
        refine z_istore (by decide) rfl dX8_coast_47 ?_
        refine z_aload_n rfl rfl dX8_coast_49 ?_
        refine z_iload_n rfl rfl dX8_coast_50 ?_
        refine z_callS (as := [.int (p)]) (ctg_X8_isPoint (p)) ko_X8_isPoint kl_X8_113 rfl rfl ⟨by decide, by decide, by decide, by decide⟩ (Nat.le_of_ble_eq_true rfl) rfl dX8_coast_51 ?_
        refine z_if_ne 61 (by decide) dX8_coast_54 (z_br zb_n (fun h11 => ?_)) (z_br zb_0 (fun h12 => ?_))
        · exact absurd (by repeat' (first | assumption | apply And.intro)) hbad
        · refine z_iconst (nI 1) (by decide) dX8_coast_57 ?_
          refine z_goto 82 (by decide) dX8_coast_58 ?_
          refine m_putI kf_X8_92 (zl_a rfl rfl) rfl dX8_coast_82 ?_
          refine z_aload_n rfl rfl dX8_coast_85 ?_
          refine m_getI kf_X8_92 (zl_a rfl rfl) rfl dX8_coast_86 ?_
          refine m_eqv (w := nI 1) (rfl) ?_
          refine z_if_ne 122 (by decide) dX8_coast_89 (fun _ => ?_) (fun h => absurd h (by decide))
          exact z_vret (rfl) rfl (by decide) (by decide) dX8_coast_122
      · refine z_iload rfl dX8_coast_34 ?_
        refine z_callS (as := [.int (t)]) (ct_X8_isYear (t)) ko_X8_isYear kl_X8_110 rfl rfl ⟨by decide, by decide, by decide, by decide⟩ (Nat.le_of_ble_eq_true rfl) rfl dX8_coast_36 ?_
        refine z_if_eq 46 (by decide) dX8_coast_39 (z_br zb_0 (fun h13 => ?_)) (z_br zb_n (fun h14 => ?_))
        · refine z_iconst (nI 0) (by decide) dX8_coast_46 ?_
          refine z_istore (by decide) rfl dX8_coast_47 ?_
          refine z_aload_n rfl rfl dX8_coast_49 ?_
          refine z_iload_n rfl rfl dX8_coast_50 ?_
          refine z_callS (as := [.int (p)]) (ctg_X8_isPoint (p)) ko_X8_isPoint kl_X8_113 rfl rfl ⟨by decide, by decide, by decide, by decide⟩ (Nat.le_of_ble_eq_true rfl) rfl dX8_coast_51 ?_
          refine z_if_ne 61 (by decide) dX8_coast_54 (z_br zb_n (fun h15 => ?_)) (z_br zb_0 (fun h16 => ?_))
          · exact absurd (by repeat' (first | assumption | apply And.intro)) hbad
          · refine z_iconst (nI 1) (by decide) dX8_coast_57 ?_
            refine z_goto 82 (by decide) dX8_coast_58 ?_
            refine m_putI kf_X8_92 (zl_a rfl rfl) rfl dX8_coast_82 ?_
            refine z_aload_n rfl rfl dX8_coast_85 ?_
            refine m_getI kf_X8_92 (zl_a rfl rfl) rfl dX8_coast_86 ?_
            refine m_eqv (w := nI 1) (rfl) ?_
            refine z_if_ne 122 (by decide) dX8_coast_89 (fun _ => ?_) (fun h => absurd h (by decide))
            exact z_vret (rfl) rfl (by decide) (by decide) dX8_coast_122
        · refine z_iconst (nI 1) (by decide) dX8_coast_42 ?_
          refine z_goto 47 (by decide) dX8_coast_43 ?_
          refine z_istore (by decide) rfl dX8_coast_47 ?_
          refine z_aload_n rfl rfl dX8_coast_49 ?_
          refine z_iload_n rfl rfl dX8_coast_50 ?_
          refine z_callS (as := [.int (p)]) (ctg_X8_isPoint (p)) ko_X8_isPoint kl_X8_113 rfl rfl ⟨by decide, by decide, by decide, by decide⟩ (Nat.le_of_ble_eq_true rfl) rfl dX8_coast_51 ?_
          refine z_if_ne 61 (by decide) dX8_coast_54 (z_br zb_n (fun h17 => ?_)) (z_br zb_0 (fun h18 => ?_))
          · exact absurd (by repeat' (first | assumption | apply And.intro)) hbad
          · refine z_iconst (nI 1) (by decide) dX8_coast_57 ?_
            refine z_goto 82 (by decide) dX8_coast_58 ?_
            refine m_putI kf_X8_92 (zl_a rfl rfl) rfl dX8_coast_82 ?_
            refine z_aload_n rfl rfl dX8_coast_85 ?_
            refine m_getI kf_X8_92 (zl_a rfl rfl) rfl dX8_coast_86 ?_
            refine m_eqv (w := nI 1) (rfl) ?_
            refine z_if_ne 122 (by decide) dX8_coast_89 (fun _ => ?_) (fun h => absurd h (by decide))
            exact z_vret (rfl) rfl (by decide) (by decide) dX8_coast_122
set_option maxRecDepth 100000 in
set_option maxHeartbeats 4000000 in
theorem ct_X8_coast {E : Nat × (Nat → Int32)} {μ : Nat → Nat → Int32} {g : Int64} {nr : Nat} (hnr : μ 117 8 = nI nr) (hr60 : nr ≤ 60) {j : Nat} (hj : j < 24) {x y n t : Int32}  : zCt E kX8_coast [.ref (117), .int (nI j), .int (x), .int (y), .int (n), .int (t)] (zm μ g) (if ¬ (zin x (nI 500) ∧ zin y (nI 500) ∧ znm n ∧ zyr t) then (.inl none, zm ((zu μ 117 0 (nI 2))) g) else if 0 < nr then (.inl none, zm ((zu μ 117 0 (nI 3))) g) else (.inl none, zm (zu (zu (zu (zu (zu μ 117 0 (nI 0)) 118 j x) 119 j y) 120 j n) 121 j t) g) : zO) := by
  refine zCt_of ko_X8_coast (Nat.le_of_ble_eq_true rfl) (zas_r (zas_i (zas_i (zas_i (zas_i (zas_i zas_0)))))) (zMM (zifn rfl (zifn rfl rfl))) (Nat.le_of_ble_eq_true rfl) ?_
  show zV false E kX8_coast 145 _ 0 [.ref (117), .int (nI j), .int (x), .int (y), .int (n), .int (t), .null] [] (zm μ g) 0 0
  refine z_iload_n rfl rfl dX8_coast_0 ?_
  refine z_sipush (-500) (by decide) dX8_coast_1 ?_
  refine z_sipush (nI 500) (by decide) dX8_coast_4 ?_
  refine z_callS (as := [.int (x), .int (-500), .int (nI 500)]) (ct_X8_isInS (x) (-500) (nI 500) (by decide)) ko_X8_isIn kl_X8_96 rfl rfl ⟨by decide, by decide, by decide, by decide⟩ (Nat.le_of_ble_eq_true rfl) rfl dX8_coast_7 ?_
  refine z_if_eq 46 (by decide) dX8_coast_10 (z_br zb_0 (fun h1 => ?_)) (z_br zb_n (fun h2 => ?_))
  · refine z_iconst (nI 0) (by decide) dX8_coast_46 ?_
    refine z_istore (by decide) rfl dX8_coast_47 ?_
    refine z_aload_n rfl rfl dX8_coast_49 ?_
    refine z_iload_n rfl rfl dX8_coast_50 ?_
    refine z_callS (as := [.int (nI j)]) (ct_X8_isPoint (j := j) (by omega)) ko_X8_isPoint kl_X8_113 rfl rfl ⟨by decide, by decide, by decide, by decide⟩ (Nat.le_of_ble_eq_true rfl) rfl dX8_coast_51 ?_
    refine z_if_ne 61 (by decide) dX8_coast_54 (fun _ => ?_) (fun h => absurd h (by decide))
    refine z_iload rfl dX8_coast_61 ?_
    refine z_if_ne 70 (by decide) dX8_coast_63 (fun h => absurd h (by decide)) (fun _ => ?_)
    refine z_iconst (nI 2) (by decide) dX8_coast_66 ?_
    refine z_goto 82 (by decide) dX8_coast_67 ?_
    refine m_putI kf_X8_92 (zl_a rfl rfl) rfl dX8_coast_82 ?_
    refine z_aload_n rfl rfl dX8_coast_85 ?_
    refine m_getI kf_X8_92 (zl_a rfl rfl) rfl dX8_coast_86 ?_
    refine m_eqv (w := nI 2) (rfl) ?_
    refine z_if_ne 122 (by decide) dX8_coast_89 (fun _ => ?_) (fun h => absurd h (by decide))
    exact z_vret ((if_pos (fun q => by first | exact absurd q.1 (by assumption) | exact q.1 (by assumption) | exact absurd q.2.1 (by assumption) | exact q.2.1 (by assumption) | exact absurd q.2.2.1 (by assumption) | exact q.2.2.1 (by assumption) | exact absurd q.2.2.2 (by assumption) | exact q.2.2.2 (by assumption))).trans rfl) rfl (by decide) (by decide) dX8_coast_122
  · refine z_iload_n rfl rfl dX8_coast_13 ?_
    refine z_sipush (-500) (by decide) dX8_coast_14 ?_
    refine z_sipush (nI 500) (by decide) dX8_coast_17 ?_
    refine z_callS (as := [.int (y), .int (-500), .int (nI 500)]) (ct_X8_isInS (y) (-500) (nI 500) (by decide)) ko_X8_isIn kl_X8_96 rfl rfl ⟨by decide, by decide, by decide, by decide⟩ (Nat.le_of_ble_eq_true rfl) rfl dX8_coast_20 ?_
    refine z_if_eq 46 (by decide) dX8_coast_23 (z_br zb_0 (fun h3 => ?_)) (z_br zb_n (fun h4 => ?_))
    · refine z_iconst (nI 0) (by decide) dX8_coast_46 ?_
      refine z_istore (by decide) rfl dX8_coast_47 ?_
      refine z_aload_n rfl rfl dX8_coast_49 ?_
      refine z_iload_n rfl rfl dX8_coast_50 ?_
      refine z_callS (as := [.int (nI j)]) (ct_X8_isPoint (j := j) (by omega)) ko_X8_isPoint kl_X8_113 rfl rfl ⟨by decide, by decide, by decide, by decide⟩ (Nat.le_of_ble_eq_true rfl) rfl dX8_coast_51 ?_
      refine z_if_ne 61 (by decide) dX8_coast_54 (fun _ => ?_) (fun h => absurd h (by decide))
      refine z_iload rfl dX8_coast_61 ?_
      refine z_if_ne 70 (by decide) dX8_coast_63 (fun h => absurd h (by decide)) (fun _ => ?_)
      refine z_iconst (nI 2) (by decide) dX8_coast_66 ?_
      refine z_goto 82 (by decide) dX8_coast_67 ?_
      refine m_putI kf_X8_92 (zl_a rfl rfl) rfl dX8_coast_82 ?_
      refine z_aload_n rfl rfl dX8_coast_85 ?_
      refine m_getI kf_X8_92 (zl_a rfl rfl) rfl dX8_coast_86 ?_
      refine m_eqv (w := nI 2) (rfl) ?_
      refine z_if_ne 122 (by decide) dX8_coast_89 (fun _ => ?_) (fun h => absurd h (by decide))
      exact z_vret ((if_pos (fun q => by first | exact absurd q.1 (by assumption) | exact q.1 (by assumption) | exact absurd q.2.1 (by assumption) | exact q.2.1 (by assumption) | exact absurd q.2.2.1 (by assumption) | exact q.2.2.1 (by assumption) | exact absurd q.2.2.2 (by assumption) | exact q.2.2.2 (by assumption))).trans rfl) rfl (by decide) (by decide) dX8_coast_122
    · refine z_iload rfl dX8_coast_26 ?_
      refine z_callS (as := [.int (n)]) (ct_X8_isName (n)) ko_X8_isName kl_X8_106 rfl rfl ⟨by decide, by decide, by decide, by decide⟩ (Nat.le_of_ble_eq_true rfl) rfl dX8_coast_28 ?_
      refine z_if_eq 46 (by decide) dX8_coast_31 (z_br zb_0 (fun h5 => ?_)) (z_br zb_n (fun h6 => ?_))
      · refine z_iconst (nI 0) (by decide) dX8_coast_46 ?_
        refine z_istore (by decide) rfl dX8_coast_47 ?_
        refine z_aload_n rfl rfl dX8_coast_49 ?_
        refine z_iload_n rfl rfl dX8_coast_50 ?_
        refine z_callS (as := [.int (nI j)]) (ct_X8_isPoint (j := j) (by omega)) ko_X8_isPoint kl_X8_113 rfl rfl ⟨by decide, by decide, by decide, by decide⟩ (Nat.le_of_ble_eq_true rfl) rfl dX8_coast_51 ?_
        refine z_if_ne 61 (by decide) dX8_coast_54 (fun _ => ?_) (fun h => absurd h (by decide))
        refine z_iload rfl dX8_coast_61 ?_
        refine z_if_ne 70 (by decide) dX8_coast_63 (fun h => absurd h (by decide)) (fun _ => ?_)
        refine z_iconst (nI 2) (by decide) dX8_coast_66 ?_
        refine z_goto 82 (by decide) dX8_coast_67 ?_
        refine m_putI kf_X8_92 (zl_a rfl rfl) rfl dX8_coast_82 ?_
        refine z_aload_n rfl rfl dX8_coast_85 ?_
        refine m_getI kf_X8_92 (zl_a rfl rfl) rfl dX8_coast_86 ?_
        refine m_eqv (w := nI 2) (rfl) ?_
        refine z_if_ne 122 (by decide) dX8_coast_89 (fun _ => ?_) (fun h => absurd h (by decide))
        exact z_vret ((if_pos (fun q => by first | exact absurd q.1 (by assumption) | exact q.1 (by assumption) | exact absurd q.2.1 (by assumption) | exact q.2.1 (by assumption) | exact absurd q.2.2.1 (by assumption) | exact q.2.2.1 (by assumption) | exact absurd q.2.2.2 (by assumption) | exact q.2.2.2 (by assumption))).trans rfl) rfl (by decide) (by decide) dX8_coast_122
      · refine z_iload rfl dX8_coast_34 ?_
        refine z_callS (as := [.int (t)]) (ct_X8_isYear (t)) ko_X8_isYear kl_X8_110 rfl rfl ⟨by decide, by decide, by decide, by decide⟩ (Nat.le_of_ble_eq_true rfl) rfl dX8_coast_36 ?_
        refine z_if_eq 46 (by decide) dX8_coast_39 (z_br zb_0 (fun h7 => ?_)) (z_br zb_n (fun h8 => ?_))
        · refine z_iconst (nI 0) (by decide) dX8_coast_46 ?_
          refine z_istore (by decide) rfl dX8_coast_47 ?_
          refine z_aload_n rfl rfl dX8_coast_49 ?_
          refine z_iload_n rfl rfl dX8_coast_50 ?_
          refine z_callS (as := [.int (nI j)]) (ct_X8_isPoint (j := j) (by omega)) ko_X8_isPoint kl_X8_113 rfl rfl ⟨by decide, by decide, by decide, by decide⟩ (Nat.le_of_ble_eq_true rfl) rfl dX8_coast_51 ?_
          refine z_if_ne 61 (by decide) dX8_coast_54 (fun _ => ?_) (fun h => absurd h (by decide))
          refine z_iload rfl dX8_coast_61 ?_
          refine z_if_ne 70 (by decide) dX8_coast_63 (fun h => absurd h (by decide)) (fun _ => ?_)
          refine z_iconst (nI 2) (by decide) dX8_coast_66 ?_
          refine z_goto 82 (by decide) dX8_coast_67 ?_
          refine m_putI kf_X8_92 (zl_a rfl rfl) rfl dX8_coast_82 ?_
          refine z_aload_n rfl rfl dX8_coast_85 ?_
          refine m_getI kf_X8_92 (zl_a rfl rfl) rfl dX8_coast_86 ?_
          refine m_eqv (w := nI 2) (rfl) ?_
          refine z_if_ne 122 (by decide) dX8_coast_89 (fun _ => ?_) (fun h => absurd h (by decide))
          exact z_vret ((if_pos (fun q => by first | exact absurd q.1 (by assumption) | exact q.1 (by assumption) | exact absurd q.2.1 (by assumption) | exact q.2.1 (by assumption) | exact absurd q.2.2.1 (by assumption) | exact q.2.2.1 (by assumption) | exact absurd q.2.2.2 (by assumption) | exact q.2.2.2 (by assumption))).trans rfl) rfl (by decide) (by decide) dX8_coast_122
        · refine z_iconst (nI 1) (by decide) dX8_coast_42 ?_
          refine z_goto 47 (by decide) dX8_coast_43 ?_
          refine z_istore (by decide) rfl dX8_coast_47 ?_
          refine z_aload_n rfl rfl dX8_coast_49 ?_
          refine z_iload_n rfl rfl dX8_coast_50 ?_
          refine z_callS (as := [.int (nI j)]) (ct_X8_isPoint (j := j) (by omega)) ko_X8_isPoint kl_X8_113 rfl rfl ⟨by decide, by decide, by decide, by decide⟩ (Nat.le_of_ble_eq_true rfl) rfl dX8_coast_51 ?_
          refine z_if_ne 61 (by decide) dX8_coast_54 (fun _ => ?_) (fun h => absurd h (by decide))
          refine z_iload rfl dX8_coast_61 ?_
          refine z_if_ne 70 (by decide) dX8_coast_63 (fun _ => ?_) (fun h => absurd h (by decide))
          refine z_aload_n rfl rfl dX8_coast_70 ?_
          refine m_getI kf_X8_116 (zl_a rfl rfl) rfl dX8_coast_71 ?_
          refine m_eqv (w := nI nr) (hnr) ?_
          refine z_if_le 81 (by decide) dX8_coast_74 (z_br (z0l (n := nr) (by omega)) (fun h9 => ?_)) (z_brn (z0l (n := nr) (by omega)) (fun h10 => ?_))
          · refine z_iconst (nI 0) (by decide) dX8_coast_81 ?_
            refine m_putI kf_X8_92 (zl_a rfl rfl) rfl dX8_coast_82 ?_
            refine z_aload_n rfl rfl dX8_coast_85 ?_
            refine m_getI kf_X8_92 (zl_a rfl rfl) rfl dX8_coast_86 ?_
            refine m_eqv (w := nI 0) (rfl) ?_
            refine z_if_ne 122 (by decide) dX8_coast_89 (fun h => absurd h (by decide)) (fun _ => ?_)
            refine z_aload_n rfl rfl dX8_coast_92 ?_
            refine m_getR (118) kf_X8_7 (zl_a rfl rfl) rfl rfl (by decide) dX8_coast_93 ?_
            refine z_iload_n rfl rfl dX8_coast_96 ?_
            refine z_iload_n rfl rfl dX8_coast_97 ?_
            refine m_iast (j) (zl_a rfl rfl) rfl (by omega) (by decide) dX8_coast_98 ?_
            refine z_aload_n rfl rfl dX8_coast_99 ?_
            refine m_getR (119) kf_X8_13 (zl_a rfl rfl) rfl rfl (by decide) dX8_coast_100 ?_
            refine z_iload_n rfl rfl dX8_coast_103 ?_
            refine z_iload_n rfl rfl dX8_coast_104 ?_
            refine m_iast (j) (zl_a rfl rfl) rfl (by omega) (by decide) dX8_coast_105 ?_
            refine z_aload_n rfl rfl dX8_coast_106 ?_
            refine m_getR (120) kf_X8_16 (zl_a rfl rfl) rfl rfl (by decide) dX8_coast_107 ?_
            refine z_iload_n rfl rfl dX8_coast_110 ?_
            refine z_iload rfl dX8_coast_111 ?_
            refine m_iast (j) (zl_a rfl rfl) rfl (by omega) (by decide) dX8_coast_113 ?_
            refine z_aload_n rfl rfl dX8_coast_114 ?_
            refine m_getR (121) kf_X8_19 (zl_a rfl rfl) rfl rfl (by decide) dX8_coast_115 ?_
            refine z_iload_n rfl rfl dX8_coast_118 ?_
            refine z_iload rfl dX8_coast_119 ?_
            refine m_iast (j) (zl_a rfl rfl) rfl (by omega) (by decide) dX8_coast_121 ?_
            exact z_vret ((if_neg (fun q => q ⟨by assumption, by assumption, by assumption, by assumption⟩)).trans ((if_neg (by omega)).trans (rfl))) rfl (by decide) (by decide) dX8_coast_122
          · refine z_iconst (nI 3) (by decide) dX8_coast_77 ?_
            refine z_goto 82 (by decide) dX8_coast_78 ?_
            refine m_putI kf_X8_92 (zl_a rfl rfl) rfl dX8_coast_82 ?_
            refine z_aload_n rfl rfl dX8_coast_85 ?_
            refine m_getI kf_X8_92 (zl_a rfl rfl) rfl dX8_coast_86 ?_
            refine m_eqv (w := nI 3) (rfl) ?_
            refine z_if_ne 122 (by decide) dX8_coast_89 (fun _ => ?_) (fun h => absurd h (by decide))
            exact z_vret ((if_neg (fun q => q ⟨by assumption, by assumption, by assumption, by assumption⟩)).trans ((if_pos (by omega)).trans rfl)) rfl (by decide) (by decide) dX8_coast_122
set_option maxRecDepth 100000 in
set_option maxHeartbeats 4000000 in
theorem ct_X8_pilot {E : Nat × (Nat → Int32)} {μ : Nat → Nat → Int32} {g : Int64} {np : Nat} (hnp : μ 117 5 = nI np) (hp6 : np ≤ 6) {x y : Int32}  : zCt E kX8_pilot [.ref (117), .int (x), .int (y)] (zm μ g) (if ¬ (zin x (nI 30) ∧ zin y (nI 30)) then (.inl (some (.int (nI 0))), zm ((zu μ 117 0 (nI 1))) g) else if ¬ np < 6 then (.inl (some (.int (nI 0))), zm ((zu μ 117 0 (nI 2))) g) else (.inl (some (.int (nI np))), zm (zu (zu (zu (zu μ 117 0 (nI 0)) 122 np x) 123 np y) 117 5 (nI (np + 1))) g) : zO) := by
  refine zCt_of ko_X8_pilot (Nat.le_of_ble_eq_true rfl) (zas_r (zas_i (zas_i zas_0))) (zMM (zifn rfl (zifn rfl rfl))) (Nat.le_of_ble_eq_true rfl) ?_
  show zV false E kX8_pilot 145 _ 0 [.ref (117), .int (x), .int (y), .null] [] (zm μ g) 0 0
  refine z_iload_n rfl rfl dX8_pilot_0 ?_
  refine z_bipush (-30) (by decide) dX8_pilot_1 ?_
  refine z_bipush (nI 30) (by decide) dX8_pilot_3 ?_
  refine z_callS (as := [.int (x), .int (-30), .int (nI 30)]) (ct_X8_isInS (x) (-30) (nI 30) (by decide)) ko_X8_isIn kl_X8_96 rfl rfl ⟨by decide, by decide, by decide, by decide⟩ (Nat.le_of_ble_eq_true rfl) rfl dX8_pilot_5 ?_
  refine z_if_eq 26 (by decide) dX8_pilot_8 (z_br zb_0 (fun h1 => ?_)) (z_br zb_n (fun h2 => ?_))
  · refine z_iconst (nI 0) (by decide) dX8_pilot_26 ?_
    refine z_istore_n rfl (by decide) rfl dX8_pilot_27 ?_
    refine z_aload_n rfl rfl dX8_pilot_28 ?_
    refine z_iload_n rfl rfl dX8_pilot_29 ?_
    refine z_if_ne 37 (by decide) dX8_pilot_30 (fun h => absurd h (by decide)) (fun _ => ?_)
    refine z_iconst (nI 1) (by decide) dX8_pilot_33 ?_
    refine z_goto 51 (by decide) dX8_pilot_34 ?_
    refine m_putI kf_X8_92 (zl_a rfl rfl) rfl dX8_pilot_51 ?_
    refine z_aload_n rfl rfl dX8_pilot_54 ?_
    refine m_getI kf_X8_92 (zl_a rfl rfl) rfl dX8_pilot_55 ?_
    refine m_eqv (w := nI 1) (rfl) ?_
    refine z_if_le 63 (by decide) dX8_pilot_58 (fun h => absurd h (by decide)) (fun _ => ?_)
    refine z_iconst (nI 0) (by decide) dX8_pilot_61 ?_
    exact z_iret ((if_pos (fun q => by first | exact absurd q.1 (by assumption) | exact q.1 (by assumption) | exact absurd q.2 (by assumption) | exact q.2 (by assumption))).trans rfl) rfl (znarI _) (by decide) (by decide) dX8_pilot_62
  · refine z_iload_n rfl rfl dX8_pilot_11 ?_
    refine z_bipush (-30) (by decide) dX8_pilot_12 ?_
    refine z_bipush (nI 30) (by decide) dX8_pilot_14 ?_
    refine z_callS (as := [.int (y), .int (-30), .int (nI 30)]) (ct_X8_isInS (y) (-30) (nI 30) (by decide)) ko_X8_isIn kl_X8_96 rfl rfl ⟨by decide, by decide, by decide, by decide⟩ (Nat.le_of_ble_eq_true rfl) rfl dX8_pilot_16 ?_
    refine z_if_eq 26 (by decide) dX8_pilot_19 (z_br zb_0 (fun h3 => ?_)) (z_br zb_n (fun h4 => ?_))
    · refine z_iconst (nI 0) (by decide) dX8_pilot_26 ?_
      refine z_istore_n rfl (by decide) rfl dX8_pilot_27 ?_
      refine z_aload_n rfl rfl dX8_pilot_28 ?_
      refine z_iload_n rfl rfl dX8_pilot_29 ?_
      refine z_if_ne 37 (by decide) dX8_pilot_30 (fun h => absurd h (by decide)) (fun _ => ?_)
      refine z_iconst (nI 1) (by decide) dX8_pilot_33 ?_
      refine z_goto 51 (by decide) dX8_pilot_34 ?_
      refine m_putI kf_X8_92 (zl_a rfl rfl) rfl dX8_pilot_51 ?_
      refine z_aload_n rfl rfl dX8_pilot_54 ?_
      refine m_getI kf_X8_92 (zl_a rfl rfl) rfl dX8_pilot_55 ?_
      refine m_eqv (w := nI 1) (rfl) ?_
      refine z_if_le 63 (by decide) dX8_pilot_58 (fun h => absurd h (by decide)) (fun _ => ?_)
      refine z_iconst (nI 0) (by decide) dX8_pilot_61 ?_
      exact z_iret ((if_pos (fun q => by first | exact absurd q.1 (by assumption) | exact q.1 (by assumption) | exact absurd q.2 (by assumption) | exact q.2 (by assumption))).trans rfl) rfl (znarI _) (by decide) (by decide) dX8_pilot_62
    · refine z_iconst (nI 1) (by decide) dX8_pilot_22 ?_
      refine z_goto 27 (by decide) dX8_pilot_23 ?_
      refine z_istore_n rfl (by decide) rfl dX8_pilot_27 ?_
      refine z_aload_n rfl rfl dX8_pilot_28 ?_
      refine z_iload_n rfl rfl dX8_pilot_29 ?_
      refine z_if_ne 37 (by decide) dX8_pilot_30 (fun _ => ?_) (fun h => absurd h (by decide))
      refine z_aload_n rfl rfl dX8_pilot_37 ?_
      refine m_getI kf_X8_119 (zl_a rfl rfl) rfl dX8_pilot_38 ?_
      refine m_eqv (w := nI np) (hnp) ?_
      refine z_bipush (nI 6) (by decide) dX8_pilot_41 ?_
      refine z_icmp_ne 50 (by decide) dX8_pilot_43 (z_brn (zcn (n := np) (by omega) (6) (by omega)).1 (fun h5 => ?_)) (z_br (zcn (n := np) (by omega) (6) (by omega)).1 (fun h6 => ?_))
      · refine z_iconst (nI 0) (by decide) dX8_pilot_50 ?_
        refine m_putI kf_X8_92 (zl_a rfl rfl) rfl dX8_pilot_51 ?_
        refine z_aload_n rfl rfl dX8_pilot_54 ?_
        refine m_getI kf_X8_92 (zl_a rfl rfl) rfl dX8_pilot_55 ?_
        refine m_eqv (w := nI 0) (rfl) ?_
        refine z_if_le 63 (by decide) dX8_pilot_58 (fun _ => ?_) (fun h => absurd h (by decide))
        refine z_aload_n rfl rfl dX8_pilot_63 ?_
        refine m_getR (122) kf_X8_22 (zl_a rfl rfl) rfl rfl (by decide) dX8_pilot_64 ?_
        refine z_aload_n rfl rfl dX8_pilot_67 ?_
        refine m_getI kf_X8_119 (zl_a rfl rfl) rfl dX8_pilot_68 ?_
        refine m_eqv (w := nI np) (hnp) ?_
        refine z_iload_n rfl rfl dX8_pilot_71 ?_
        refine m_iast (np) (zl_a rfl rfl) rfl (by omega) (by decide) dX8_pilot_72 ?_
        refine z_aload_n rfl rfl dX8_pilot_73 ?_
        refine m_getR (123) kf_X8_25 (zl_a rfl rfl) rfl rfl (by decide) dX8_pilot_74 ?_
        refine z_aload_n rfl rfl dX8_pilot_77 ?_
        refine m_getI kf_X8_119 (zl_a rfl rfl) rfl dX8_pilot_78 ?_
        refine m_eqv (w := nI np) (hnp) ?_
        refine z_iload_n rfl rfl dX8_pilot_81 ?_
        refine m_iast (np) (zl_a rfl rfl) rfl (by omega) (by decide) dX8_pilot_82 ?_
        refine z_aload_n rfl rfl dX8_pilot_83 ?_
        refine z_dup rfl dX8_pilot_84 ?_
        refine m_getI kf_X8_119 (zl_a rfl rfl) rfl dX8_pilot_85 ?_
        refine m_eqv (w := nI np) (hnp) ?_
        refine z_iconst (nI 1) (by decide) dX8_pilot_88 ?_
        refine m_addN dX8_pilot_89 ?_
        refine m_putI kf_X8_119 (zl_a rfl rfl) rfl dX8_pilot_90 ?_
        refine z_aload_n rfl rfl dX8_pilot_93 ?_
        refine m_getI kf_X8_119 (zl_a rfl rfl) rfl dX8_pilot_94 ?_
        refine m_eqv (w := nI (np + 1)) (rfl) ?_
        refine z_iconst (nI 1) (by decide) dX8_pilot_97 ?_
        refine m_subN (by omega) dX8_pilot_98 ?_
        exact z_iret ((if_neg (fun q => q ⟨by assumption, by assumption⟩)).trans ((if_neg (by omega)).trans (rfl))) rfl (znarI _) (by decide) (by decide) dX8_pilot_99
      · refine z_iconst (nI 2) (by decide) dX8_pilot_46 ?_
        refine z_goto 51 (by decide) dX8_pilot_47 ?_
        refine m_putI kf_X8_92 (zl_a rfl rfl) rfl dX8_pilot_51 ?_
        refine z_aload_n rfl rfl dX8_pilot_54 ?_
        refine m_getI kf_X8_92 (zl_a rfl rfl) rfl dX8_pilot_55 ?_
        refine m_eqv (w := nI 2) (rfl) ?_
        refine z_if_le 63 (by decide) dX8_pilot_58 (fun h => absurd h (by decide)) (fun _ => ?_)
        refine z_iconst (nI 0) (by decide) dX8_pilot_61 ?_
        exact z_iret ((if_neg (fun q => q ⟨by assumption, by assumption⟩)).trans ((if_pos (by omega)).trans rfl)) rfl (znarI _) (by decide) (by decide) dX8_pilot_62
set_option maxRecDepth 100000 in
set_option maxHeartbeats 4000000 in
theorem ctx_X8_report {E : Nat × (Nat → Int32)} {μ : Nat → Nat → Int32} {g : Int64} {np : Nat} (hnp : μ 117 5 = nI np) (hp6 : np ≤ 6) {p f t : Int32} (hbad : ¬ (zrg np p ∧ zrg 24 f ∧ zrg 24 t)) : zCt E kX8_report [.ref (117), .int (p), .int (f), .int (t)] (zm μ g) (.inl (some (.int (nI 0))), zm ((zu μ 117 0 (nI 1))) g) := by
  refine zCt_of ko_X8_report (Nat.le_of_ble_eq_true rfl) (zas_r (zas_i (zas_i (zas_i zas_0)))) ⟨Nat.le_refl _, fun h => absurd h (Nat.lt_irrefl _)⟩ (Nat.le_of_ble_eq_true rfl) ?_
  show zV false E kX8_report 145 _ 0 [.ref (117), .int (p), .int (f), .int (t), .null, .null, .null, .null, .null] [] (zm μ g) 0 0
  refine z_iload_n rfl rfl dX8_report_0 ?_
  refine z_iconst (nI 0) (by decide) dX8_report_1 ?_
  refine z_aload_n rfl rfl dX8_report_2 ?_
  refine m_getI kf_X8_119 (zl_a rfl rfl) rfl dX8_report_3 ?_
  refine m_eqv (w := nI np) (hnp) ?_
  refine z_iconst (nI 1) (by decide) dX8_report_6 ?_
  refine z_isub dX8_report_7 ?_
  refine z_callS (as := [.int (p), .int (nI 0), .int ((nI np) - (nI 1))]) (ct_X8_isInR (p) np (by omega)) ko_X8_isIn kl_X8_96 rfl rfl ⟨by decide, by decide, by decide, by decide⟩ (Nat.le_of_ble_eq_true rfl) rfl dX8_report_8 ?_
  refine z_if_eq 32 (by decide) dX8_report_11 (z_br zb_0 (fun h1 => ?_)) (z_br zb_n (fun h2 => ?_))
  · refine z_iconst (nI 0) (by decide) dX8_report_32 ?_
    refine z_istore (by decide) rfl dX8_report_33 ?_
    refine z_aload_n rfl rfl dX8_report_35 ?_
    refine z_iload rfl dX8_report_36 ?_
    refine z_if_ne 45 (by decide) dX8_report_38 (fun h => absurd h (by decide)) (fun _ => ?_)
    refine z_iconst (nI 1) (by decide) dX8_report_41 ?_
    refine z_goto 68 (by decide) dX8_report_42 ?_
    refine m_putI kf_X8_92 (zl_a rfl rfl) rfl dX8_report_68 ?_
    refine z_aload_n rfl rfl dX8_report_71 ?_
    refine m_getI kf_X8_92 (zl_a rfl rfl) rfl dX8_report_72 ?_
    refine m_eqv (w := nI 1) (rfl) ?_
    refine z_if_le 80 (by decide) dX8_report_75 (fun h => absurd h (by decide)) (fun _ => ?_)
    refine z_iconst (nI 0) (by decide) dX8_report_78 ?_
    exact z_iret (rfl) rfl (znarI _) (by decide) (by decide) dX8_report_79
  · refine z_iload_n rfl rfl dX8_report_14 ?_
    refine z_callS (as := [.int (f)]) (ctg_X8_isPoint (f)) ko_X8_isPoint kl_X8_113 rfl rfl ⟨by decide, by decide, by decide, by decide⟩ (Nat.le_of_ble_eq_true rfl) rfl dX8_report_15 ?_
    refine z_if_eq 32 (by decide) dX8_report_18 (z_br zb_0 (fun h3 => ?_)) (z_br zb_n (fun h4 => ?_))
    · refine z_iconst (nI 0) (by decide) dX8_report_32 ?_
      refine z_istore (by decide) rfl dX8_report_33 ?_
      refine z_aload_n rfl rfl dX8_report_35 ?_
      refine z_iload rfl dX8_report_36 ?_
      refine z_if_ne 45 (by decide) dX8_report_38 (fun h => absurd h (by decide)) (fun _ => ?_)
      refine z_iconst (nI 1) (by decide) dX8_report_41 ?_
      refine z_goto 68 (by decide) dX8_report_42 ?_
      refine m_putI kf_X8_92 (zl_a rfl rfl) rfl dX8_report_68 ?_
      refine z_aload_n rfl rfl dX8_report_71 ?_
      refine m_getI kf_X8_92 (zl_a rfl rfl) rfl dX8_report_72 ?_
      refine m_eqv (w := nI 1) (rfl) ?_
      refine z_if_le 80 (by decide) dX8_report_75 (fun h => absurd h (by decide)) (fun _ => ?_)
      refine z_iconst (nI 0) (by decide) dX8_report_78 ?_
      exact z_iret (rfl) rfl (znarI _) (by decide) (by decide) dX8_report_79
    · refine z_iload_n rfl rfl dX8_report_21 ?_
      refine z_callS (as := [.int (t)]) (ctg_X8_isPoint (t)) ko_X8_isPoint kl_X8_113 rfl rfl ⟨by decide, by decide, by decide, by decide⟩ (Nat.le_of_ble_eq_true rfl) rfl dX8_report_22 ?_
      refine z_if_eq 32 (by decide) dX8_report_25 (z_br zb_0 (fun h5 => ?_)) (z_br zb_n (fun h6 => ?_))
      · refine z_iconst (nI 0) (by decide) dX8_report_32 ?_
        refine z_istore (by decide) rfl dX8_report_33 ?_
        refine z_aload_n rfl rfl dX8_report_35 ?_
        refine z_iload rfl dX8_report_36 ?_
        refine z_if_ne 45 (by decide) dX8_report_38 (fun h => absurd h (by decide)) (fun _ => ?_)
        refine z_iconst (nI 1) (by decide) dX8_report_41 ?_
        refine z_goto 68 (by decide) dX8_report_42 ?_
        refine m_putI kf_X8_92 (zl_a rfl rfl) rfl dX8_report_68 ?_
        refine z_aload_n rfl rfl dX8_report_71 ?_
        refine m_getI kf_X8_92 (zl_a rfl rfl) rfl dX8_report_72 ?_
        refine m_eqv (w := nI 1) (rfl) ?_
        refine z_if_le 80 (by decide) dX8_report_75 (fun h => absurd h (by decide)) (fun _ => ?_)
        refine z_iconst (nI 0) (by decide) dX8_report_78 ?_
        exact z_iret (rfl) rfl (znarI _) (by decide) (by decide) dX8_report_79
      · exact absurd (by repeat' (first | assumption | apply And.intro)) hbad
set_option maxRecDepth 100000 in
set_option maxHeartbeats 4000000 in
theorem ct_X8_report {E : Nat × (Nat → Int32)} {μ : Nat → Nat → Int32} {g : Int64} {np : Nat} (hnp : μ 117 5 = nI np) (hp6 : np ≤ 6) {nr : Nat} (hnr : μ 117 8 = nI nr) (hr60 : nr ≤ 60) {q f t : Nat} (hq : q < np) (hf : f < 24) (ht : t < 24)  : zCt E kX8_report [.ref (117), .int (nI q), .int (nI f), .int (nI t)] (zm μ g) (if f = t then (.inl (some (.int (nI 0))), zm ((zu μ 117 0 (nI 2))) g) else if ¬ nr < 60 then (.inl (some (.int (nI 0))), zm ((zu μ 117 0 (nI 3))) g) else (.inl (some (.int (nI nr))), zm (zu (zu (zu (zu (zu (zu μ 117 0 (nI 0)) 124 nr (nI f)) 125 nr (nI t)) 126 nr (((μ 118 t - μ 118 f) - (μ 119 t - μ 119 f) * μ 122 q / nI 100) + ((μ 118 t - μ 118 f) - (μ 119 t - μ 119 f) * μ 122 q / nI 100) * μ 123 q / nI 100)) 127 nr (((μ 119 t - μ 119 f) + (μ 118 t - μ 118 f) * μ 122 q / nI 100) + ((μ 119 t - μ 119 f) + (μ 118 t - μ 118 f) * μ 122 q / nI 100) * μ 123 q / nI 100)) 117 8 (nI (nr + 1))) g) : zO) := by
  refine zCt_of ko_X8_report (Nat.le_of_ble_eq_true rfl) (zas_r (zas_i (zas_i (zas_i zas_0)))) (zMM (zifn rfl (zifn rfl rfl))) (Nat.le_of_ble_eq_true rfl) ?_
  show zV false E kX8_report 145 _ 0 [.ref (117), .int (nI q), .int (nI f), .int (nI t), .null, .null, .null, .null, .null] [] (zm μ g) 0 0
  refine z_iload_n rfl rfl dX8_report_0 ?_
  refine z_iconst (nI 0) (by decide) dX8_report_1 ?_
  refine z_aload_n rfl rfl dX8_report_2 ?_
  refine m_getI kf_X8_119 (zl_a rfl rfl) rfl dX8_report_3 ?_
  refine m_eqv (w := nI np) (hnp) ?_
  refine z_iconst (nI 1) (by decide) dX8_report_6 ?_
  refine m_subN (by omega) dX8_report_7 ?_
  refine z_callS (as := [.int (nI q), .int (nI 0), .int (nI (np - 1))]) (ct_X8_isInN (l := 0) (j := q) (h := np - 1) (by omega) (by omega) (by omega)) ko_X8_isIn kl_X8_96 rfl rfl ⟨by decide, by decide, by decide, by decide⟩ (Nat.le_of_ble_eq_true rfl) rfl dX8_report_8 ?_
  refine z_if_eq 32 (by decide) dX8_report_11 (fun h => absurd h (by decide)) (fun _ => ?_)
  refine z_iload_n rfl rfl dX8_report_14 ?_
  refine z_callS (as := [.int (nI f)]) (ct_X8_isPoint (j := f) (by omega)) ko_X8_isPoint kl_X8_113 rfl rfl ⟨by decide, by decide, by decide, by decide⟩ (Nat.le_of_ble_eq_true rfl) rfl dX8_report_15 ?_
  refine z_if_eq 32 (by decide) dX8_report_18 (fun h => absurd h (by decide)) (fun _ => ?_)
  refine z_iload_n rfl rfl dX8_report_21 ?_
  refine z_callS (as := [.int (nI t)]) (ct_X8_isPoint (j := t) (by omega)) ko_X8_isPoint kl_X8_113 rfl rfl ⟨by decide, by decide, by decide, by decide⟩ (Nat.le_of_ble_eq_true rfl) rfl dX8_report_22 ?_
  refine z_if_eq 32 (by decide) dX8_report_25 (fun h => absurd h (by decide)) (fun _ => ?_)
  refine z_iconst (nI 1) (by decide) dX8_report_28 ?_
  refine z_goto 33 (by decide) dX8_report_29 ?_
  refine z_istore (by decide) rfl dX8_report_33 ?_
  refine z_aload_n rfl rfl dX8_report_35 ?_
  refine z_iload rfl dX8_report_36 ?_
  refine z_if_ne 45 (by decide) dX8_report_38 (fun _ => ?_) (fun h => absurd h (by decide))
  refine z_iload_n rfl rfl dX8_report_45 ?_
  refine z_iload_n rfl rfl dX8_report_46 ?_
  refine z_icmp_ne 54 (by decide) dX8_report_47 (z_brn (zcn (n := f) (by omega) (t) (by omega)).1 (fun h1 => ?_)) (z_br (zcn (n := f) (by omega) (t) (by omega)).1 (fun h2 => ?_))
  · refine z_aload_n rfl rfl dX8_report_54 ?_
    refine m_getI kf_X8_116 (zl_a rfl rfl) rfl dX8_report_55 ?_
    refine m_eqv (w := nI nr) (hnr) ?_
    refine z_bipush (nI 60) (by decide) dX8_report_58 ?_
    refine z_icmp_ne 67 (by decide) dX8_report_60 (z_brn (zcn (n := nr) (by omega) (60) (by omega)).1 (fun h3 => ?_)) (z_br (zcn (n := nr) (by omega) (60) (by omega)).1 (fun h4 => ?_))
    · refine z_iconst (nI 0) (by decide) dX8_report_67 ?_
      refine m_putI kf_X8_92 (zl_a rfl rfl) rfl dX8_report_68 ?_
      refine z_aload_n rfl rfl dX8_report_71 ?_
      refine m_getI kf_X8_92 (zl_a rfl rfl) rfl dX8_report_72 ?_
      refine m_eqv (w := nI 0) (rfl) ?_
      refine z_if_le 80 (by decide) dX8_report_75 (fun _ => ?_) (fun h => absurd h (by decide))
      refine z_aload_n rfl rfl dX8_report_80 ?_
      refine m_getR (118) kf_X8_7 (zl_a rfl rfl) rfl rfl (by decide) dX8_report_81 ?_
      refine z_iload_n rfl rfl dX8_report_84 ?_
      refine m_iald (t) (zl_a rfl rfl) rfl (by omega) (by decide) dX8_report_85 ?_
      refine z_aload_n rfl rfl dX8_report_86 ?_
      refine m_getR (118) kf_X8_7 (zl_a rfl rfl) rfl rfl (by decide) dX8_report_87 ?_
      refine z_iload_n rfl rfl dX8_report_90 ?_
      refine m_iald (f) (zl_a rfl rfl) rfl (by omega) (by decide) dX8_report_91 ?_
      refine z_isub dX8_report_92 ?_
      refine z_istore (by decide) rfl dX8_report_93 ?_
      refine z_aload_n rfl rfl dX8_report_95 ?_
      refine m_getR (119) kf_X8_13 (zl_a rfl rfl) rfl rfl (by decide) dX8_report_96 ?_
      refine z_iload_n rfl rfl dX8_report_99 ?_
      refine m_iald (t) (zl_a rfl rfl) rfl (by omega) (by decide) dX8_report_100 ?_
      refine z_aload_n rfl rfl dX8_report_101 ?_
      refine m_getR (119) kf_X8_13 (zl_a rfl rfl) rfl rfl (by decide) dX8_report_102 ?_
      refine z_iload_n rfl rfl dX8_report_105 ?_
      refine m_iald (f) (zl_a rfl rfl) rfl (by omega) (by decide) dX8_report_106 ?_
      refine z_isub dX8_report_107 ?_
      refine z_istore (by decide) rfl dX8_report_108 ?_
      refine z_iload rfl dX8_report_110 ?_
      refine z_iload rfl dX8_report_112 ?_
      refine z_aload_n rfl rfl dX8_report_114 ?_
      refine m_getR (122) kf_X8_22 (zl_a rfl rfl) rfl rfl (by decide) dX8_report_115 ?_
      refine z_iload_n rfl rfl dX8_report_118 ?_
      refine m_iald (q) (zl_a rfl rfl) rfl (by omega) (by decide) dX8_report_119 ?_
      refine z_imul dX8_report_120 ?_
      refine z_bipush (nI 100) (by decide) dX8_report_121 ?_
      refine z_idiv (by decide) dX8_report_123 ?_
      refine z_isub dX8_report_124 ?_
      refine z_istore (by decide) rfl dX8_report_125 ?_
      refine z_iload rfl dX8_report_127 ?_
      refine z_iload rfl dX8_report_129 ?_
      refine z_aload_n rfl rfl dX8_report_131 ?_
      refine m_getR (122) kf_X8_22 (zl_a rfl rfl) rfl rfl (by decide) dX8_report_132 ?_
      refine z_iload_n rfl rfl dX8_report_135 ?_
      refine m_iald (q) (zl_a rfl rfl) rfl (by omega) (by decide) dX8_report_136 ?_
      refine z_imul dX8_report_137 ?_
      refine z_bipush (nI 100) (by decide) dX8_report_138 ?_
      refine z_idiv (by decide) dX8_report_140 ?_
      refine z_iadd dX8_report_141 ?_
      refine z_istore (by decide) rfl dX8_report_142 ?_
      refine z_aload_n rfl rfl dX8_report_144 ?_
      refine m_getR (124) kf_X8_28 (zl_a rfl rfl) rfl rfl (by decide) dX8_report_145 ?_
      refine z_aload_n rfl rfl dX8_report_148 ?_
      refine m_getI kf_X8_116 (zl_a rfl rfl) rfl dX8_report_149 ?_
      refine m_eqv (w := nI nr) (hnr) ?_
      refine z_iload_n rfl rfl dX8_report_152 ?_
      refine m_iast (nr) (zl_a rfl rfl) rfl (by omega) (by decide) dX8_report_153 ?_
      refine z_aload_n rfl rfl dX8_report_154 ?_
      refine m_getR (125) kf_X8_31 (zl_a rfl rfl) rfl rfl (by decide) dX8_report_155 ?_
      refine z_aload_n rfl rfl dX8_report_158 ?_
      refine m_getI kf_X8_116 (zl_a rfl rfl) rfl dX8_report_159 ?_
      refine m_eqv (w := nI nr) (hnr) ?_
      refine z_iload_n rfl rfl dX8_report_162 ?_
      refine m_iast (nr) (zl_a rfl rfl) rfl (by omega) (by decide) dX8_report_163 ?_
      refine z_aload_n rfl rfl dX8_report_164 ?_
      refine m_getR (126) kf_X8_34 (zl_a rfl rfl) rfl rfl (by decide) dX8_report_165 ?_
      refine z_aload_n rfl rfl dX8_report_168 ?_
      refine m_getI kf_X8_116 (zl_a rfl rfl) rfl dX8_report_169 ?_
      refine m_eqv (w := nI nr) (hnr) ?_
      refine z_iload rfl dX8_report_172 ?_
      refine z_iload rfl dX8_report_174 ?_
      refine z_aload_n rfl rfl dX8_report_176 ?_
      refine m_getR (123) kf_X8_25 (zl_a rfl rfl) rfl rfl (by decide) dX8_report_177 ?_
      refine z_iload_n rfl rfl dX8_report_180 ?_
      refine m_iald (q) (zl_a rfl rfl) rfl (by omega) (by decide) dX8_report_181 ?_
      refine z_imul dX8_report_182 ?_
      refine z_bipush (nI 100) (by decide) dX8_report_183 ?_
      refine z_idiv (by decide) dX8_report_185 ?_
      refine z_iadd dX8_report_186 ?_
      refine m_iast (nr) (zl_a rfl rfl) rfl (by omega) (by decide) dX8_report_187 ?_
      refine z_aload_n rfl rfl dX8_report_188 ?_
      refine m_getR (127) kf_X8_37 (zl_a rfl rfl) rfl rfl (by decide) dX8_report_189 ?_
      refine z_aload_n rfl rfl dX8_report_192 ?_
      refine m_getI kf_X8_116 (zl_a rfl rfl) rfl dX8_report_193 ?_
      refine m_eqv (w := nI nr) (hnr) ?_
      refine z_iload rfl dX8_report_196 ?_
      refine z_iload rfl dX8_report_198 ?_
      refine z_aload_n rfl rfl dX8_report_200 ?_
      refine m_getR (123) kf_X8_25 (zl_a rfl rfl) rfl rfl (by decide) dX8_report_201 ?_
      refine z_iload_n rfl rfl dX8_report_204 ?_
      refine m_iald (q) (zl_a rfl rfl) rfl (by omega) (by decide) dX8_report_205 ?_
      refine z_imul dX8_report_206 ?_
      refine z_bipush (nI 100) (by decide) dX8_report_207 ?_
      refine z_idiv (by decide) dX8_report_209 ?_
      refine z_iadd dX8_report_210 ?_
      refine m_iast (nr) (zl_a rfl rfl) rfl (by omega) (by decide) dX8_report_211 ?_
      refine z_aload_n rfl rfl dX8_report_212 ?_
      refine z_dup rfl dX8_report_213 ?_
      refine m_getI kf_X8_116 (zl_a rfl rfl) rfl dX8_report_214 ?_
      refine m_eqv (w := nI nr) (hnr) ?_
      refine z_iconst (nI 1) (by decide) dX8_report_217 ?_
      refine m_addN dX8_report_218 ?_
      refine m_putI kf_X8_116 (zl_a rfl rfl) rfl dX8_report_219 ?_
      refine z_aload_n rfl rfl dX8_report_222 ?_
      refine m_getI kf_X8_116 (zl_a rfl rfl) rfl dX8_report_223 ?_
      refine m_eqv (w := nI (nr + 1)) (rfl) ?_
      refine z_iconst (nI 1) (by decide) dX8_report_226 ?_
      refine m_subN (by omega) dX8_report_227 ?_
      exact z_iret ((if_neg (by omega)).trans ((if_neg (by omega)).trans (rfl))) rfl (znarI _) (by decide) (by decide) dX8_report_228
    · refine z_iconst (nI 3) (by decide) dX8_report_63 ?_
      refine z_goto 68 (by decide) dX8_report_64 ?_
      refine m_putI kf_X8_92 (zl_a rfl rfl) rfl dX8_report_68 ?_
      refine z_aload_n rfl rfl dX8_report_71 ?_
      refine m_getI kf_X8_92 (zl_a rfl rfl) rfl dX8_report_72 ?_
      refine m_eqv (w := nI 3) (rfl) ?_
      refine z_if_le 80 (by decide) dX8_report_75 (fun h => absurd h (by decide)) (fun _ => ?_)
      refine z_iconst (nI 0) (by decide) dX8_report_78 ?_
      exact z_iret ((if_neg (by omega)).trans ((if_pos (by omega)).trans rfl)) rfl (znarI _) (by decide) (by decide) dX8_report_79
  · refine z_iconst (nI 2) (by decide) dX8_report_50 ?_
    refine z_goto 68 (by decide) dX8_report_51 ?_
    refine m_putI kf_X8_92 (zl_a rfl rfl) rfl dX8_report_68 ?_
    refine z_aload_n rfl rfl dX8_report_71 ?_
    refine m_getI kf_X8_92 (zl_a rfl rfl) rfl dX8_report_72 ?_
    refine m_eqv (w := nI 2) (rfl) ?_
    refine z_if_le 80 (by decide) dX8_report_75 (fun h => absurd h (by decide)) (fun _ => ?_)
    refine z_iconst (nI 0) (by decide) dX8_report_78 ?_
    exact z_iret ((if_pos (by omega)).trans rfl) rfl (znarI _) (by decide) (by decide) dX8_report_79
set_option maxRecDepth 100000 in
set_option maxHeartbeats 4000000 in
theorem ctx_X8_hand {E : Nat × (Nat → Int32)} {μ : Nat → Nat → Int32} {g : Int64} {p h : Int32} (hbad : ¬ (zrg 4 p)) : zCt E kX8_hand [.ref (117), .int (p), .int (h)] (zm μ g) (.inl (some (.int (nI 0))), zm ((zu μ 117 0 (nI 1))) g) := by
  refine zCt_of ko_X8_hand (Nat.le_of_ble_eq_true rfl) (zas_r (zas_i (zas_i zas_0))) ⟨Nat.le_refl _, fun h => absurd h (Nat.lt_irrefl _)⟩ (Nat.le_of_ble_eq_true rfl) ?_
  show zV false E kX8_hand 145 _ 0 [.ref (117), .int (p), .int (h), .null] [] (zm μ g) 0 0
  refine z_aload_n rfl rfl dX8_hand_0 ?_
  refine z_iload_n rfl rfl dX8_hand_1 ?_
  refine z_callS (as := [.int (p)]) (ctg_X8_isCopyist (p)) ko_X8_isCopyist kl_X8_133 rfl rfl ⟨by decide, by decide, by decide, by decide⟩ (Nat.le_of_ble_eq_true rfl) rfl dX8_hand_2 ?_
  refine z_if_ne 12 (by decide) dX8_hand_5 (z_br zb_n (fun h1 => ?_)) (z_br zb_0 (fun h2 => ?_))
  · exact absurd (by repeat' (first | assumption | apply And.intro)) hbad
  · refine z_iconst (nI 1) (by decide) dX8_hand_8 ?_
    refine z_goto 28 (by decide) dX8_hand_9 ?_
    refine m_putI kf_X8_92 (zl_a rfl rfl) rfl dX8_hand_28 ?_
    refine z_aload_n rfl rfl dX8_hand_31 ?_
    refine m_getI kf_X8_92 (zl_a rfl rfl) rfl dX8_hand_32 ?_
    refine m_eqv (w := nI 1) (rfl) ?_
    refine z_if_le 40 (by decide) dX8_hand_35 (fun h => absurd h (by decide)) (fun _ => ?_)
    refine z_iconst (nI 0) (by decide) dX8_hand_38 ?_
    exact z_iret (rfl) rfl (znarI _) (by decide) (by decide) dX8_hand_39
set_option maxRecDepth 100000 in
set_option maxHeartbeats 4000000 in
theorem ct_X8_hand {E : Nat × (Nat → Int32)} {μ : Nat → Nat → Int32} {g : Int64} {q : Nat} (hq : q < 4) {h : Int32}  : zCt E kX8_hand [.ref (117), .int (nI q), .int (h)] (zm μ g) (if ¬ zin h (nI 9) then (.inl (some (.int (nI 0))), zm ((zu μ 117 0 (nI 2))) g) else (.inl (some (.int (μ 135 q))), zm (zu (zu μ 117 0 (nI 0)) 135 q h) g) : zO) := by
  refine zCt_of ko_X8_hand (Nat.le_of_ble_eq_true rfl) (zas_r (zas_i (zas_i zas_0))) (zMM (zifn rfl rfl)) (Nat.le_of_ble_eq_true rfl) ?_
  show zV false E kX8_hand 145 _ 0 [.ref (117), .int (nI q), .int (h), .null] [] (zm μ g) 0 0
  refine z_aload_n rfl rfl dX8_hand_0 ?_
  refine z_iload_n rfl rfl dX8_hand_1 ?_
  refine z_callS (as := [.int (nI q)]) (ct_X8_isCopyist (j := q) (by omega)) ko_X8_isCopyist kl_X8_133 rfl rfl ⟨by decide, by decide, by decide, by decide⟩ (Nat.le_of_ble_eq_true rfl) rfl dX8_hand_2 ?_
  refine z_if_ne 12 (by decide) dX8_hand_5 (fun _ => ?_) (fun h => absurd h (by decide))
  refine z_iload_n rfl rfl dX8_hand_12 ?_
  refine z_bipush (-9) (by decide) dX8_hand_13 ?_
  refine z_bipush (nI 9) (by decide) dX8_hand_15 ?_
  refine z_callS (as := [.int (h), .int (-9), .int (nI 9)]) (ct_X8_isInS (h) (-9) (nI 9) (by decide)) ko_X8_isIn kl_X8_96 rfl rfl ⟨by decide, by decide, by decide, by decide⟩ (Nat.le_of_ble_eq_true rfl) rfl dX8_hand_17 ?_
  refine z_if_ne 27 (by decide) dX8_hand_20 (z_br zb_n (fun h1 => ?_)) (z_br zb_0 (fun h2 => ?_))
  · refine z_iconst (nI 0) (by decide) dX8_hand_27 ?_
    refine m_putI kf_X8_92 (zl_a rfl rfl) rfl dX8_hand_28 ?_
    refine z_aload_n rfl rfl dX8_hand_31 ?_
    refine m_getI kf_X8_92 (zl_a rfl rfl) rfl dX8_hand_32 ?_
    refine m_eqv (w := nI 0) (rfl) ?_
    refine z_if_le 40 (by decide) dX8_hand_35 (fun _ => ?_) (fun h => absurd h (by decide))
    refine z_aload_n rfl rfl dX8_hand_40 ?_
    refine m_getR (135) kf_X8_62 (zl_a rfl rfl) rfl rfl (by decide) dX8_hand_41 ?_
    refine z_iload_n rfl rfl dX8_hand_44 ?_
    refine m_iald (q) (zl_a rfl rfl) rfl (by omega) (by decide) dX8_hand_45 ?_
    refine z_istore_n rfl (by decide) rfl dX8_hand_46 ?_
    refine z_aload_n rfl rfl dX8_hand_47 ?_
    refine m_getR (135) kf_X8_62 (zl_a rfl rfl) rfl rfl (by decide) dX8_hand_48 ?_
    refine z_iload_n rfl rfl dX8_hand_51 ?_
    refine z_iload_n rfl rfl dX8_hand_52 ?_
    refine m_iast (q) (zl_a rfl rfl) rfl (by omega) (by decide) dX8_hand_53 ?_
    refine z_iload_n rfl rfl dX8_hand_54 ?_
    exact z_iret ((if_neg (fun q => q (by assumption))).trans (rfl)) rfl (znarI _) (by decide) (by decide) dX8_hand_55
  · refine z_iconst (nI 2) (by decide) dX8_hand_23 ?_
    refine z_goto 28 (by decide) dX8_hand_24 ?_
    refine m_putI kf_X8_92 (zl_a rfl rfl) rfl dX8_hand_28 ?_
    refine z_aload_n rfl rfl dX8_hand_31 ?_
    refine m_getI kf_X8_92 (zl_a rfl rfl) rfl dX8_hand_32 ?_
    refine m_eqv (w := nI 2) (rfl) ?_
    refine z_if_le 40 (by decide) dX8_hand_35 (fun h => absurd h (by decide)) (fun _ => ?_)
    refine z_iconst (nI 0) (by decide) dX8_hand_38 ?_
    exact z_iret ((if_pos (by assumption)).trans rfl) rfl (znarI _) (by decide) (by decide) dX8_hand_39
set_option maxRecDepth 100000 in
set_option maxHeartbeats 4000000 in
theorem ctx_X8_reads {E : Nat × (Nat → Int32)} {μ : Nat → Nat → Int32} {g : Int64} {p h w : Int32} (hbad : ¬ (zrg 4 p)) : zCt E kX8_reads [.ref (117), .int (p), .int (h), .int (w)] (zm μ g) (.inl none, zm ((zu μ 117 0 (nI 1))) g) := by
  refine zCt_of ko_X8_reads (Nat.le_of_ble_eq_true rfl) (zas_r (zas_i (zas_i (zas_i zas_0)))) ⟨Nat.le_refl _, fun h => absurd h (Nat.lt_irrefl _)⟩ (Nat.le_of_ble_eq_true rfl) ?_
  show zV false E kX8_reads 145 _ 0 [.ref (117), .int (p), .int (h), .int (w)] [] (zm μ g) 0 0
  refine z_aload_n rfl rfl dX8_reads_0 ?_
  refine z_iload_n rfl rfl dX8_reads_1 ?_
  refine z_callS (as := [.int (p)]) (ctg_X8_isCopyist (p)) ko_X8_isCopyist kl_X8_133 rfl rfl ⟨by decide, by decide, by decide, by decide⟩ (Nat.le_of_ble_eq_true rfl) rfl dX8_reads_2 ?_
  refine z_if_ne 12 (by decide) dX8_reads_5 (z_br zb_n (fun h1 => ?_)) (z_br zb_0 (fun h2 => ?_))
  · exact absurd (by repeat' (first | assumption | apply And.intro)) hbad
  · refine z_iconst (nI 1) (by decide) dX8_reads_8 ?_
    refine z_goto 31 (by decide) dX8_reads_9 ?_
    refine m_putI kf_X8_92 (zl_a rfl rfl) rfl dX8_reads_31 ?_
    refine z_aload_n rfl rfl dX8_reads_34 ?_
    refine m_getI kf_X8_92 (zl_a rfl rfl) rfl dX8_reads_35 ?_
    refine m_eqv (w := nI 1) (rfl) ?_
    refine z_if_ne 53 (by decide) dX8_reads_38 (fun _ => ?_) (fun h => absurd h (by decide))
    exact z_vret (rfl) rfl (by decide) (by decide) dX8_reads_53
set_option maxRecDepth 100000 in
set_option maxHeartbeats 4000000 in
theorem ct_X8_reads {E : Nat × (Nat → Int32)} {μ : Nat → Nat → Int32} {g : Int64} {q : Nat} (hq : q < 4) {a w : Int32}  : zCt E kX8_reads [.ref (117), .int (nI q), .int (a), .int (w)] (zm μ g) (if ¬ (znm a ∧ znm w) then (.inl none, zm ((zu μ 117 0 (nI 2))) g) else (.inl none, zm (zu (zu μ 117 0 (nI 0)) 136 (100 * q + a.toNatClampNeg) w) g) : zO) := by
  refine zCt_of ko_X8_reads (Nat.le_of_ble_eq_true rfl) (zas_r (zas_i (zas_i (zas_i zas_0)))) (zMM (zifn rfl rfl)) (Nat.le_of_ble_eq_true rfl) ?_
  show zV false E kX8_reads 145 _ 0 [.ref (117), .int (nI q), .int (a), .int (w)] [] (zm μ g) 0 0
  refine z_aload_n rfl rfl dX8_reads_0 ?_
  refine z_iload_n rfl rfl dX8_reads_1 ?_
  refine z_callS (as := [.int (nI q)]) (ct_X8_isCopyist (j := q) (by omega)) ko_X8_isCopyist kl_X8_133 rfl rfl ⟨by decide, by decide, by decide, by decide⟩ (Nat.le_of_ble_eq_true rfl) rfl dX8_reads_2 ?_
  refine z_if_ne 12 (by decide) dX8_reads_5 (fun _ => ?_) (fun h => absurd h (by decide))
  refine z_iload_n rfl rfl dX8_reads_12 ?_
  refine z_callS (as := [.int (a)]) (ct_X8_isName (a)) ko_X8_isName kl_X8_106 rfl rfl ⟨by decide, by decide, by decide, by decide⟩ (Nat.le_of_ble_eq_true rfl) rfl dX8_reads_13 ?_
  refine z_if_eq 26 (by decide) dX8_reads_16 (z_br zb_0 (fun h1 => ?_)) (z_br zb_n (fun h2 => ?_))
  · refine z_iconst (nI 2) (by decide) dX8_reads_26 ?_
    refine z_goto 31 (by decide) dX8_reads_27 ?_
    refine m_putI kf_X8_92 (zl_a rfl rfl) rfl dX8_reads_31 ?_
    refine z_aload_n rfl rfl dX8_reads_34 ?_
    refine m_getI kf_X8_92 (zl_a rfl rfl) rfl dX8_reads_35 ?_
    refine m_eqv (w := nI 2) (rfl) ?_
    refine z_if_ne 53 (by decide) dX8_reads_38 (fun _ => ?_) (fun h => absurd h (by decide))
    exact z_vret ((if_pos (fun q => by first | exact absurd q.1 (by assumption) | exact q.1 (by assumption) | exact absurd q.2 (by assumption) | exact q.2 (by assumption))).trans rfl) rfl (by decide) (by decide) dX8_reads_53
  · refine z_iload_n rfl rfl dX8_reads_19 ?_
    refine z_callS (as := [.int (w)]) (ct_X8_isName (w)) ko_X8_isName kl_X8_106 rfl rfl ⟨by decide, by decide, by decide, by decide⟩ (Nat.le_of_ble_eq_true rfl) rfl dX8_reads_20 ?_
    refine z_if_ne 30 (by decide) dX8_reads_23 (z_br zb_n (fun h3 => ?_)) (z_br zb_0 (fun h4 => ?_))
    · refine z_iconst (nI 0) (by decide) dX8_reads_30 ?_
      refine m_putI kf_X8_92 (zl_a rfl rfl) rfl dX8_reads_31 ?_
      refine z_aload_n rfl rfl dX8_reads_34 ?_
      refine m_getI kf_X8_92 (zl_a rfl rfl) rfl dX8_reads_35 ?_
      refine m_eqv (w := nI 0) (rfl) ?_
      refine z_if_ne 53 (by decide) dX8_reads_38 (fun h => absurd h (by decide)) (fun _ => ?_)
      refine z_aload_n rfl rfl dX8_reads_41 ?_
      refine m_getR (136) kf_X8_65 (zl_a rfl rfl) rfl rfl (by decide) dX8_reads_42 ?_
      refine z_bipush (nI 100) (by decide) dX8_reads_45 ?_
      refine z_iload_n rfl rfl dX8_reads_47 ?_
      refine m_mulN dX8_reads_48 ?_
      refine z_iload_n rfl rfl dX8_reads_49 ?_
      obtain ⟨jn, hj99, hjn⟩ := znm_of (v := a) (by assumption)
      refine m_eqv (w := nI jn) (hjn) ?_
      refine m_addN dX8_reads_50 ?_
      refine z_iload_n rfl rfl dX8_reads_51 ?_
      refine m_iast ((100 * q) + jn) (zl_a rfl rfl) rfl (by omega) (by decide) dX8_reads_52 ?_
      exact z_vret ((if_neg (fun q => q ⟨by assumption, by assumption⟩)).trans (by rw [hjn, nI_clamp (by omega)])) rfl (by decide) (by decide) dX8_reads_53
    · refine z_iconst (nI 2) (by decide) dX8_reads_26 ?_
      refine z_goto 31 (by decide) dX8_reads_27 ?_
      refine m_putI kf_X8_92 (zl_a rfl rfl) rfl dX8_reads_31 ?_
      refine z_aload_n rfl rfl dX8_reads_34 ?_
      refine m_getI kf_X8_92 (zl_a rfl rfl) rfl dX8_reads_35 ?_
      refine m_eqv (w := nI 2) (rfl) ?_
      refine z_if_ne 53 (by decide) dX8_reads_38 (fun _ => ?_) (fun h => absurd h (by decide))
      exact z_vret ((if_pos (fun q => by first | exact absurd q.1 (by assumption) | exact q.1 (by assumption) | exact absurd q.2 (by assumption) | exact q.2 (by assumption))).trans rfl) rfl (by decide) (by decide) dX8_reads_53
set_option maxRecDepth 100000 in
set_option maxHeartbeats 4000000 in
theorem ctx_X8_island {E : Nat × (Nat → Int32)} {μ : Nat → Nat → Int32} {g : Int64} {nc : Nat} (hnc : μ 117 13 = nI nc) (hn12 : nc ≤ 12) {ni : Nat} (hni : μ 117 23 = nI ni) (hi20 : ni ≤ 20) {p x y : Int32} (hbad : ¬ (zrg nc p)) : zCt E kX8_island [.ref (117), .int (p), .int (x), .int (y)] (zm μ g) (.inl (some (.int (nI 0))), zm ((zu μ 117 0 (nI 1))) g) := by
  refine zCt_of ko_X8_island (Nat.le_of_ble_eq_true rfl) (zas_r (zas_i (zas_i (zas_i zas_0)))) ⟨Nat.le_refl _, fun h => absurd h (Nat.lt_irrefl _)⟩ (Nat.le_of_ble_eq_true rfl) ?_
  show zV false E kX8_island 145 _ 0 [.ref (117), .int (p), .int (x), .int (y), .null] [] (zm μ g) 0 0
  refine z_iload_n rfl rfl dX8_island_0 ?_
  refine z_sipush (-999) (by decide) dX8_island_1 ?_
  refine z_sipush (nI 999) (by decide) dX8_island_4 ?_
  refine z_callS (as := [.int (x), .int (-999), .int (nI 999)]) (ct_X8_isInS (x) (-999) (nI 999) (by decide)) ko_X8_isIn kl_X8_96 rfl rfl ⟨by decide, by decide, by decide, by decide⟩ (Nat.le_of_ble_eq_true rfl) rfl dX8_island_7 ?_
  refine z_if_eq 30 (by decide) dX8_island_10 (z_br zb_0 (fun h1 => ?_)) (z_br zb_n (fun h2 => ?_))
  · refine z_iconst (nI 0) (by decide) dX8_island_30 ?_
    refine z_istore (by decide) rfl dX8_island_31 ?_
    refine z_aload_n rfl rfl dX8_island_33 ?_
    refine z_aload_n rfl rfl dX8_island_34 ?_
    refine z_iload_n rfl rfl dX8_island_35 ?_
    refine z_callV (as := [.int (p)]) (ctg_X8_isChart hnc hn12 (p)) ko_X8_isChart kl_X8_136 rfl (zl_a rfl rfl) rfl rfl ⟨by decide, by decide, by decide, by decide⟩ (Nat.le_of_ble_eq_true rfl) rfl dX8_island_36 ?_
    refine z_if_ne 46 (by decide) dX8_island_39 (z_br zb_n (fun h3 => ?_)) (z_br zb_0 (fun h4 => ?_))
    · exact absurd (by repeat' (first | assumption | apply And.intro)) hbad
    · refine z_iconst (nI 1) (by decide) dX8_island_42 ?_
      refine z_goto 69 (by decide) dX8_island_43 ?_
      refine m_putI kf_X8_92 (zl_a rfl rfl) rfl dX8_island_69 ?_
      refine z_aload_n rfl rfl dX8_island_72 ?_
      refine m_getI kf_X8_92 (zl_a rfl rfl) rfl dX8_island_73 ?_
      refine m_eqv (w := nI 1) (rfl) ?_
      refine z_if_le 81 (by decide) dX8_island_76 (fun h => absurd h (by decide)) (fun _ => ?_)
      refine z_iconst (nI 0) (by decide) dX8_island_79 ?_
      exact z_iret (rfl) rfl (znarI _) (by decide) (by decide) dX8_island_80
  · refine z_iload_n rfl rfl dX8_island_13 ?_
    refine z_sipush (-999) (by decide) dX8_island_14 ?_
    refine z_sipush (nI 999) (by decide) dX8_island_17 ?_
    refine z_callS (as := [.int (y), .int (-999), .int (nI 999)]) (ct_X8_isInS (y) (-999) (nI 999) (by decide)) ko_X8_isIn kl_X8_96 rfl rfl ⟨by decide, by decide, by decide, by decide⟩ (Nat.le_of_ble_eq_true rfl) rfl dX8_island_20 ?_
    refine z_if_eq 30 (by decide) dX8_island_23 (z_br zb_0 (fun h5 => ?_)) (z_br zb_n (fun h6 => ?_))
    · refine z_iconst (nI 0) (by decide) dX8_island_30 ?_
      refine z_istore (by decide) rfl dX8_island_31 ?_
      refine z_aload_n rfl rfl dX8_island_33 ?_
      refine z_aload_n rfl rfl dX8_island_34 ?_
      refine z_iload_n rfl rfl dX8_island_35 ?_
      refine z_callV (as := [.int (p)]) (ctg_X8_isChart hnc hn12 (p)) ko_X8_isChart kl_X8_136 rfl (zl_a rfl rfl) rfl rfl ⟨by decide, by decide, by decide, by decide⟩ (Nat.le_of_ble_eq_true rfl) rfl dX8_island_36 ?_
      refine z_if_ne 46 (by decide) dX8_island_39 (z_br zb_n (fun h7 => ?_)) (z_br zb_0 (fun h8 => ?_))
      · exact absurd (by repeat' (first | assumption | apply And.intro)) hbad
      · refine z_iconst (nI 1) (by decide) dX8_island_42 ?_
        refine z_goto 69 (by decide) dX8_island_43 ?_
        refine m_putI kf_X8_92 (zl_a rfl rfl) rfl dX8_island_69 ?_
        refine z_aload_n rfl rfl dX8_island_72 ?_
        refine m_getI kf_X8_92 (zl_a rfl rfl) rfl dX8_island_73 ?_
        refine m_eqv (w := nI 1) (rfl) ?_
        refine z_if_le 81 (by decide) dX8_island_76 (fun h => absurd h (by decide)) (fun _ => ?_)
        refine z_iconst (nI 0) (by decide) dX8_island_79 ?_
        exact z_iret (rfl) rfl (znarI _) (by decide) (by decide) dX8_island_80
    · refine z_iconst (nI 1) (by decide) dX8_island_26 ?_
      refine z_goto 31 (by decide) dX8_island_27 ?_
      refine z_istore (by decide) rfl dX8_island_31 ?_
      refine z_aload_n rfl rfl dX8_island_33 ?_
      refine z_aload_n rfl rfl dX8_island_34 ?_
      refine z_iload_n rfl rfl dX8_island_35 ?_
      refine z_callV (as := [.int (p)]) (ctg_X8_isChart hnc hn12 (p)) ko_X8_isChart kl_X8_136 rfl (zl_a rfl rfl) rfl rfl ⟨by decide, by decide, by decide, by decide⟩ (Nat.le_of_ble_eq_true rfl) rfl dX8_island_36 ?_
      refine z_if_ne 46 (by decide) dX8_island_39 (z_br zb_n (fun h9 => ?_)) (z_br zb_0 (fun h10 => ?_))
      · exact absurd (by repeat' (first | assumption | apply And.intro)) hbad
      · refine z_iconst (nI 1) (by decide) dX8_island_42 ?_
        refine z_goto 69 (by decide) dX8_island_43 ?_
        refine m_putI kf_X8_92 (zl_a rfl rfl) rfl dX8_island_69 ?_
        refine z_aload_n rfl rfl dX8_island_72 ?_
        refine m_getI kf_X8_92 (zl_a rfl rfl) rfl dX8_island_73 ?_
        refine m_eqv (w := nI 1) (rfl) ?_
        refine z_if_le 81 (by decide) dX8_island_76 (fun h => absurd h (by decide)) (fun _ => ?_)
        refine z_iconst (nI 0) (by decide) dX8_island_79 ?_
        exact z_iret (rfl) rfl (znarI _) (by decide) (by decide) dX8_island_80
set_option maxRecDepth 100000 in
set_option maxHeartbeats 4000000 in
theorem ct_X8_island {E : Nat × (Nat → Int32)} {μ : Nat → Nat → Int32} {g : Int64} {nc : Nat} (hnc : μ 117 13 = nI nc) (hn12 : nc ≤ 12) {ni : Nat} (hni : μ 117 23 = nI ni) (hi20 : ni ≤ 20) {c : Nat} (hc : c < nc) {x y : Int32}  : zCt E kX8_island [.ref (117), .int (nI c), .int (x), .int (y)] (zm μ g) (if ¬ (zin x (nI 999) ∧ zin y (nI 999)) then (.inl (some (.int (nI 0))), zm ((zu μ 117 0 (nI 2))) g) else if ¬ ni < 20 then (.inl (some (.int (nI 0))), zm ((zu μ 117 0 (nI 3))) g) else (.inl (some (.int (nI ni))), zm (zu (zu (zu (zu (zu (zu μ 117 0 (nI 0)) 137 ni x) 138 ni y) 139 ni (nI c)) 140 (20 * c + ni) (nI 1)) 117 23 (nI (ni + 1))) g) : zO) := by
  refine zCt_of ko_X8_island (Nat.le_of_ble_eq_true rfl) (zas_r (zas_i (zas_i (zas_i zas_0)))) (zMM (zifn rfl (zifn rfl rfl))) (Nat.le_of_ble_eq_true rfl) ?_
  show zV false E kX8_island 145 _ 0 [.ref (117), .int (nI c), .int (x), .int (y), .null] [] (zm μ g) 0 0
  refine z_iload_n rfl rfl dX8_island_0 ?_
  refine z_sipush (-999) (by decide) dX8_island_1 ?_
  refine z_sipush (nI 999) (by decide) dX8_island_4 ?_
  refine z_callS (as := [.int (x), .int (-999), .int (nI 999)]) (ct_X8_isInS (x) (-999) (nI 999) (by decide)) ko_X8_isIn kl_X8_96 rfl rfl ⟨by decide, by decide, by decide, by decide⟩ (Nat.le_of_ble_eq_true rfl) rfl dX8_island_7 ?_
  refine z_if_eq 30 (by decide) dX8_island_10 (z_br zb_0 (fun h1 => ?_)) (z_br zb_n (fun h2 => ?_))
  · refine z_iconst (nI 0) (by decide) dX8_island_30 ?_
    refine z_istore (by decide) rfl dX8_island_31 ?_
    refine z_aload_n rfl rfl dX8_island_33 ?_
    refine z_aload_n rfl rfl dX8_island_34 ?_
    refine z_iload_n rfl rfl dX8_island_35 ?_
    refine z_callV (as := [.int (nI c)]) (ct_X8_isChart hnc hn12 (j := c) (by omega)) ko_X8_isChart kl_X8_136 rfl (zl_a rfl rfl) rfl rfl ⟨by decide, by decide, by decide, by decide⟩ (Nat.le_of_ble_eq_true rfl) rfl dX8_island_36 ?_
    refine z_if_ne 46 (by decide) dX8_island_39 (fun _ => ?_) (fun h => absurd h (by decide))
    refine z_iload rfl dX8_island_46 ?_
    refine z_if_ne 55 (by decide) dX8_island_48 (fun h => absurd h (by decide)) (fun _ => ?_)
    refine z_iconst (nI 2) (by decide) dX8_island_51 ?_
    refine z_goto 69 (by decide) dX8_island_52 ?_
    refine m_putI kf_X8_92 (zl_a rfl rfl) rfl dX8_island_69 ?_
    refine z_aload_n rfl rfl dX8_island_72 ?_
    refine m_getI kf_X8_92 (zl_a rfl rfl) rfl dX8_island_73 ?_
    refine m_eqv (w := nI 2) (rfl) ?_
    refine z_if_le 81 (by decide) dX8_island_76 (fun h => absurd h (by decide)) (fun _ => ?_)
    refine z_iconst (nI 0) (by decide) dX8_island_79 ?_
    exact z_iret ((if_pos (fun q => by first | exact absurd q.1 (by assumption) | exact q.1 (by assumption) | exact absurd q.2 (by assumption) | exact q.2 (by assumption))).trans rfl) rfl (znarI _) (by decide) (by decide) dX8_island_80
  · refine z_iload_n rfl rfl dX8_island_13 ?_
    refine z_sipush (-999) (by decide) dX8_island_14 ?_
    refine z_sipush (nI 999) (by decide) dX8_island_17 ?_
    refine z_callS (as := [.int (y), .int (-999), .int (nI 999)]) (ct_X8_isInS (y) (-999) (nI 999) (by decide)) ko_X8_isIn kl_X8_96 rfl rfl ⟨by decide, by decide, by decide, by decide⟩ (Nat.le_of_ble_eq_true rfl) rfl dX8_island_20 ?_
    refine z_if_eq 30 (by decide) dX8_island_23 (z_br zb_0 (fun h3 => ?_)) (z_br zb_n (fun h4 => ?_))
    · refine z_iconst (nI 0) (by decide) dX8_island_30 ?_
      refine z_istore (by decide) rfl dX8_island_31 ?_
      refine z_aload_n rfl rfl dX8_island_33 ?_
      refine z_aload_n rfl rfl dX8_island_34 ?_
      refine z_iload_n rfl rfl dX8_island_35 ?_
      refine z_callV (as := [.int (nI c)]) (ct_X8_isChart hnc hn12 (j := c) (by omega)) ko_X8_isChart kl_X8_136 rfl (zl_a rfl rfl) rfl rfl ⟨by decide, by decide, by decide, by decide⟩ (Nat.le_of_ble_eq_true rfl) rfl dX8_island_36 ?_
      refine z_if_ne 46 (by decide) dX8_island_39 (fun _ => ?_) (fun h => absurd h (by decide))
      refine z_iload rfl dX8_island_46 ?_
      refine z_if_ne 55 (by decide) dX8_island_48 (fun h => absurd h (by decide)) (fun _ => ?_)
      refine z_iconst (nI 2) (by decide) dX8_island_51 ?_
      refine z_goto 69 (by decide) dX8_island_52 ?_
      refine m_putI kf_X8_92 (zl_a rfl rfl) rfl dX8_island_69 ?_
      refine z_aload_n rfl rfl dX8_island_72 ?_
      refine m_getI kf_X8_92 (zl_a rfl rfl) rfl dX8_island_73 ?_
      refine m_eqv (w := nI 2) (rfl) ?_
      refine z_if_le 81 (by decide) dX8_island_76 (fun h => absurd h (by decide)) (fun _ => ?_)
      refine z_iconst (nI 0) (by decide) dX8_island_79 ?_
      exact z_iret ((if_pos (fun q => by first | exact absurd q.1 (by assumption) | exact q.1 (by assumption) | exact absurd q.2 (by assumption) | exact q.2 (by assumption))).trans rfl) rfl (znarI _) (by decide) (by decide) dX8_island_80
    · refine z_iconst (nI 1) (by decide) dX8_island_26 ?_
      refine z_goto 31 (by decide) dX8_island_27 ?_
      refine z_istore (by decide) rfl dX8_island_31 ?_
      refine z_aload_n rfl rfl dX8_island_33 ?_
      refine z_aload_n rfl rfl dX8_island_34 ?_
      refine z_iload_n rfl rfl dX8_island_35 ?_
      refine z_callV (as := [.int (nI c)]) (ct_X8_isChart hnc hn12 (j := c) (by omega)) ko_X8_isChart kl_X8_136 rfl (zl_a rfl rfl) rfl rfl ⟨by decide, by decide, by decide, by decide⟩ (Nat.le_of_ble_eq_true rfl) rfl dX8_island_36 ?_
      refine z_if_ne 46 (by decide) dX8_island_39 (fun _ => ?_) (fun h => absurd h (by decide))
      refine z_iload rfl dX8_island_46 ?_
      refine z_if_ne 55 (by decide) dX8_island_48 (fun _ => ?_) (fun h => absurd h (by decide))
      refine z_aload_n rfl rfl dX8_island_55 ?_
      refine m_getI kf_X8_103 (zl_a rfl rfl) rfl dX8_island_56 ?_
      refine m_eqv (w := nI ni) (hni) ?_
      refine z_bipush (nI 20) (by decide) dX8_island_59 ?_
      refine z_icmp_ne 68 (by decide) dX8_island_61 (z_brn (zcn (n := ni) (by omega) (20) (by omega)).1 (fun h5 => ?_)) (z_br (zcn (n := ni) (by omega) (20) (by omega)).1 (fun h6 => ?_))
      · refine z_iconst (nI 0) (by decide) dX8_island_68 ?_
        refine m_putI kf_X8_92 (zl_a rfl rfl) rfl dX8_island_69 ?_
        refine z_aload_n rfl rfl dX8_island_72 ?_
        refine m_getI kf_X8_92 (zl_a rfl rfl) rfl dX8_island_73 ?_
        refine m_eqv (w := nI 0) (rfl) ?_
        refine z_if_le 81 (by decide) dX8_island_76 (fun _ => ?_) (fun h => absurd h (by decide))
        refine z_aload_n rfl rfl dX8_island_81 ?_
        refine m_getR (137) kf_X8_68 (zl_a rfl rfl) rfl rfl (by decide) dX8_island_82 ?_
        refine z_aload_n rfl rfl dX8_island_85 ?_
        refine m_getI kf_X8_103 (zl_a rfl rfl) rfl dX8_island_86 ?_
        refine m_eqv (w := nI ni) (hni) ?_
        refine z_iload_n rfl rfl dX8_island_89 ?_
        refine m_iast (ni) (zl_a rfl rfl) rfl (by omega) (by decide) dX8_island_90 ?_
        refine z_aload_n rfl rfl dX8_island_91 ?_
        refine m_getR (138) kf_X8_71 (zl_a rfl rfl) rfl rfl (by decide) dX8_island_92 ?_
        refine z_aload_n rfl rfl dX8_island_95 ?_
        refine m_getI kf_X8_103 (zl_a rfl rfl) rfl dX8_island_96 ?_
        refine m_eqv (w := nI ni) (hni) ?_
        refine z_iload_n rfl rfl dX8_island_99 ?_
        refine m_iast (ni) (zl_a rfl rfl) rfl (by omega) (by decide) dX8_island_100 ?_
        refine z_aload_n rfl rfl dX8_island_101 ?_
        refine m_getR (139) kf_X8_74 (zl_a rfl rfl) rfl rfl (by decide) dX8_island_102 ?_
        refine z_aload_n rfl rfl dX8_island_105 ?_
        refine m_getI kf_X8_103 (zl_a rfl rfl) rfl dX8_island_106 ?_
        refine m_eqv (w := nI ni) (hni) ?_
        refine z_iload_n rfl rfl dX8_island_109 ?_
        refine m_iast (ni) (zl_a rfl rfl) rfl (by omega) (by decide) dX8_island_110 ?_
        refine z_aload_n rfl rfl dX8_island_111 ?_
        refine m_getR (140) kf_X8_77 (zl_a rfl rfl) rfl rfl (by decide) dX8_island_112 ?_
        refine z_bipush (nI 20) (by decide) dX8_island_115 ?_
        refine z_iload_n rfl rfl dX8_island_117 ?_
        refine m_mulN dX8_island_118 ?_
        refine z_aload_n rfl rfl dX8_island_119 ?_
        refine m_getI kf_X8_103 (zl_a rfl rfl) rfl dX8_island_120 ?_
        refine m_eqv (w := nI ni) (hni) ?_
        refine m_addN dX8_island_123 ?_
        refine z_iconst (nI 1) (by decide) dX8_island_124 ?_
        refine m_zast ((20 * c) + ni) (zl_a rfl rfl) rfl (by omega) (by decide) (by decide) dX8_island_125 ?_
        refine z_aload_n rfl rfl dX8_island_126 ?_
        refine z_dup rfl dX8_island_127 ?_
        refine m_getI kf_X8_103 (zl_a rfl rfl) rfl dX8_island_128 ?_
        refine m_eqv (w := nI ni) (hni) ?_
        refine z_iconst (nI 1) (by decide) dX8_island_131 ?_
        refine m_addN dX8_island_132 ?_
        refine m_putI kf_X8_103 (zl_a rfl rfl) rfl dX8_island_133 ?_
        refine z_aload_n rfl rfl dX8_island_136 ?_
        refine m_getI kf_X8_103 (zl_a rfl rfl) rfl dX8_island_137 ?_
        refine m_eqv (w := nI (ni + 1)) (rfl) ?_
        refine z_iconst (nI 1) (by decide) dX8_island_140 ?_
        refine m_subN (by omega) dX8_island_141 ?_
        exact z_iret ((if_neg (fun q => q ⟨by assumption, by assumption⟩)).trans ((if_neg (by omega)).trans (rfl))) rfl (znarI _) (by decide) (by decide) dX8_island_142
      · refine z_iconst (nI 3) (by decide) dX8_island_64 ?_
        refine z_goto 69 (by decide) dX8_island_65 ?_
        refine m_putI kf_X8_92 (zl_a rfl rfl) rfl dX8_island_69 ?_
        refine z_aload_n rfl rfl dX8_island_72 ?_
        refine m_getI kf_X8_92 (zl_a rfl rfl) rfl dX8_island_73 ?_
        refine m_eqv (w := nI 3) (rfl) ?_
        refine z_if_le 81 (by decide) dX8_island_76 (fun h => absurd h (by decide)) (fun _ => ?_)
        refine z_iconst (nI 0) (by decide) dX8_island_79 ?_
        exact z_iret ((if_neg (fun q => q ⟨by assumption, by assumption⟩)).trans ((if_pos (by omega)).trans rfl)) rfl (znarI _) (by decide) (by decide) dX8_island_80
set_option maxRecDepth 100000 in
set_option maxHeartbeats 4000000 in
theorem ctx_X8_exchange {E : Nat × (Nat → Int32)} {μ : Nat → Nat → Int32} {g : Int64} {nc : Nat} (hnc : μ 117 13 = nI nc) (hn12 : nc ≤ 12) {p q r : Int32} (hbad : ¬ (zrg nc p ∧ zrg 24 q ∧ zrg 24 r)) : zCt E kX8_exchange [.ref (117), .int (p), .int (q), .int (r)] (zm μ g) (.inl none, zm ((zu μ 117 0 (nI 1))) g) := by
  refine zCt_of ko_X8_exchange (Nat.le_of_ble_eq_true rfl) (zas_r (zas_i (zas_i (zas_i zas_0)))) ⟨Nat.le_refl _, fun h => absurd h (Nat.lt_irrefl _)⟩ (Nat.le_of_ble_eq_true rfl) ?_
  show zV false E kX8_exchange 145 _ 0 [.ref (117), .int (p), .int (q), .int (r), .null] [] (zm μ g) 0 0
  refine z_aload_n rfl rfl dX8_exchange_0 ?_
  refine z_aload_n rfl rfl dX8_exchange_1 ?_
  refine z_iload_n rfl rfl dX8_exchange_2 ?_
  refine z_callV (as := [.int (p)]) (ctg_X8_isChart hnc hn12 (p)) ko_X8_isChart kl_X8_136 rfl (zl_a rfl rfl) rfl rfl ⟨by decide, by decide, by decide, by decide⟩ (Nat.le_of_ble_eq_true rfl) rfl dX8_exchange_3 ?_
  refine z_if_eq 27 (by decide) dX8_exchange_6 (z_br zb_0 (fun h1 => ?_)) (z_br zb_n (fun h2 => ?_))
  · refine z_iconst (nI 1) (by decide) dX8_exchange_27 ?_
    refine m_putI kf_X8_92 (zl_a rfl rfl) rfl dX8_exchange_28 ?_
    refine z_aload_n rfl rfl dX8_exchange_31 ?_
    refine m_getI kf_X8_92 (zl_a rfl rfl) rfl dX8_exchange_32 ?_
    refine m_eqv (w := nI 1) (rfl) ?_
    refine z_if_ne 82 (by decide) dX8_exchange_35 (fun _ => ?_) (fun h => absurd h (by decide))
    exact z_vret (rfl) rfl (by decide) (by decide) dX8_exchange_82
  · refine z_iload_n rfl rfl dX8_exchange_9 ?_
    refine z_callS (as := [.int (q)]) (ctg_X8_isPoint (q)) ko_X8_isPoint kl_X8_113 rfl rfl ⟨by decide, by decide, by decide, by decide⟩ (Nat.le_of_ble_eq_true rfl) rfl dX8_exchange_10 ?_
    refine z_if_eq 27 (by decide) dX8_exchange_13 (z_br zb_0 (fun h3 => ?_)) (z_br zb_n (fun h4 => ?_))
    · refine z_iconst (nI 1) (by decide) dX8_exchange_27 ?_
      refine m_putI kf_X8_92 (zl_a rfl rfl) rfl dX8_exchange_28 ?_
      refine z_aload_n rfl rfl dX8_exchange_31 ?_
      refine m_getI kf_X8_92 (zl_a rfl rfl) rfl dX8_exchange_32 ?_
      refine m_eqv (w := nI 1) (rfl) ?_
      refine z_if_ne 82 (by decide) dX8_exchange_35 (fun _ => ?_) (fun h => absurd h (by decide))
      exact z_vret (rfl) rfl (by decide) (by decide) dX8_exchange_82
    · refine z_iload_n rfl rfl dX8_exchange_16 ?_
      refine z_callS (as := [.int (r)]) (ctg_X8_isPoint (r)) ko_X8_isPoint kl_X8_113 rfl rfl ⟨by decide, by decide, by decide, by decide⟩ (Nat.le_of_ble_eq_true rfl) rfl dX8_exchange_17 ?_
      refine z_if_eq 27 (by decide) dX8_exchange_20 (z_br zb_0 (fun h5 => ?_)) (z_br zb_n (fun h6 => ?_))
      · refine z_iconst (nI 1) (by decide) dX8_exchange_27 ?_
        refine m_putI kf_X8_92 (zl_a rfl rfl) rfl dX8_exchange_28 ?_
        refine z_aload_n rfl rfl dX8_exchange_31 ?_
        refine m_getI kf_X8_92 (zl_a rfl rfl) rfl dX8_exchange_32 ?_
        refine m_eqv (w := nI 1) (rfl) ?_
        refine z_if_ne 82 (by decide) dX8_exchange_35 (fun _ => ?_) (fun h => absurd h (by decide))
        exact z_vret (rfl) rfl (by decide) (by decide) dX8_exchange_82
      · exact absurd (by repeat' (first | assumption | apply And.intro)) hbad
set_option maxRecDepth 100000 in
set_option maxHeartbeats 4000000 in
theorem ct_X8_exchange {E : Nat × (Nat → Int32)} {μ : Nat → Nat → Int32} {g : Int64} {nc : Nat} (hnc : μ 117 13 = nI nc) (hn12 : nc ≤ 12) {c p q : Nat} (hc : c < nc) (hp : p < 24) (hq : q < 24)  : zCt E kX8_exchange [.ref (117), .int (nI c), .int (nI p), .int (nI q)] (zm μ g) ((.inl none, zm (zu (zu (zu μ 117 0 (nI 0)) 133 (24 * c + p) (μ 133 (24 * c + q))) 133 (24 * c + q) (μ 133 (24 * c + p))) g) : zO) := by
  refine zCt_of ko_X8_exchange (Nat.le_of_ble_eq_true rfl) (zas_r (zas_i (zas_i (zas_i zas_0)))) ⟨Nat.le_refl _, fun h => absurd h (Nat.lt_irrefl _)⟩ (Nat.le_of_ble_eq_true rfl) ?_
  show zV false E kX8_exchange 145 _ 0 [.ref (117), .int (nI c), .int (nI p), .int (nI q), .null] [] (zm μ g) 0 0
  refine z_aload_n rfl rfl dX8_exchange_0 ?_
  refine z_aload_n rfl rfl dX8_exchange_1 ?_
  refine z_iload_n rfl rfl dX8_exchange_2 ?_
  refine z_callV (as := [.int (nI c)]) (ct_X8_isChart hnc hn12 (j := c) (by omega)) ko_X8_isChart kl_X8_136 rfl (zl_a rfl rfl) rfl rfl ⟨by decide, by decide, by decide, by decide⟩ (Nat.le_of_ble_eq_true rfl) rfl dX8_exchange_3 ?_
  refine z_if_eq 27 (by decide) dX8_exchange_6 (fun h => absurd h (by decide)) (fun _ => ?_)
  refine z_iload_n rfl rfl dX8_exchange_9 ?_
  refine z_callS (as := [.int (nI p)]) (ct_X8_isPoint (j := p) (by omega)) ko_X8_isPoint kl_X8_113 rfl rfl ⟨by decide, by decide, by decide, by decide⟩ (Nat.le_of_ble_eq_true rfl) rfl dX8_exchange_10 ?_
  refine z_if_eq 27 (by decide) dX8_exchange_13 (fun h => absurd h (by decide)) (fun _ => ?_)
  refine z_iload_n rfl rfl dX8_exchange_16 ?_
  refine z_callS (as := [.int (nI q)]) (ct_X8_isPoint (j := q) (by omega)) ko_X8_isPoint kl_X8_113 rfl rfl ⟨by decide, by decide, by decide, by decide⟩ (Nat.le_of_ble_eq_true rfl) rfl dX8_exchange_17 ?_
  refine z_if_eq 27 (by decide) dX8_exchange_20 (fun h => absurd h (by decide)) (fun _ => ?_)
  refine z_iconst (nI 0) (by decide) dX8_exchange_23 ?_
  refine z_goto 28 (by decide) dX8_exchange_24 ?_
  refine m_putI kf_X8_92 (zl_a rfl rfl) rfl dX8_exchange_28 ?_
  refine z_aload_n rfl rfl dX8_exchange_31 ?_
  refine m_getI kf_X8_92 (zl_a rfl rfl) rfl dX8_exchange_32 ?_
  refine m_eqv (w := nI 0) (rfl) ?_
  refine z_if_ne 82 (by decide) dX8_exchange_35 (fun h => absurd h (by decide)) (fun _ => ?_)
  refine z_aload_n rfl rfl dX8_exchange_38 ?_
  refine m_getR (133) kf_X8_56 (zl_a rfl rfl) rfl rfl (by decide) dX8_exchange_39 ?_
  refine z_iload_n rfl rfl dX8_exchange_42 ?_
  refine z_iload_n rfl rfl dX8_exchange_43 ?_
  refine z_callS (as := [.int (nI c), .int (nI p)]) (ct_X8_spot (c) (p)) ko_X8_spot kl_X8_122 rfl rfl ⟨by decide, by decide, by decide, by decide⟩ (Nat.le_of_ble_eq_true rfl) rfl dX8_exchange_44 ?_
  refine m_iald (24 * c + p) (zl_a rfl rfl) rfl (by omega) (by decide) dX8_exchange_47 ?_
  refine z_istore (by decide) rfl dX8_exchange_48 ?_
  refine z_aload_n rfl rfl dX8_exchange_50 ?_
  refine m_getR (133) kf_X8_56 (zl_a rfl rfl) rfl rfl (by decide) dX8_exchange_51 ?_
  refine z_iload_n rfl rfl dX8_exchange_54 ?_
  refine z_iload_n rfl rfl dX8_exchange_55 ?_
  refine z_callS (as := [.int (nI c), .int (nI p)]) (ct_X8_spot (c) (p)) ko_X8_spot kl_X8_122 rfl rfl ⟨by decide, by decide, by decide, by decide⟩ (Nat.le_of_ble_eq_true rfl) rfl dX8_exchange_56 ?_
  refine z_aload_n rfl rfl dX8_exchange_59 ?_
  refine m_getR (133) kf_X8_56 (zl_a rfl rfl) rfl rfl (by decide) dX8_exchange_60 ?_
  refine z_iload_n rfl rfl dX8_exchange_63 ?_
  refine z_iload_n rfl rfl dX8_exchange_64 ?_
  refine z_callS (as := [.int (nI c), .int (nI q)]) (ct_X8_spot (c) (q)) ko_X8_spot kl_X8_122 rfl rfl ⟨by decide, by decide, by decide, by decide⟩ (Nat.le_of_ble_eq_true rfl) rfl dX8_exchange_65 ?_
  refine m_iald (24 * c + q) (zl_a rfl rfl) rfl (by omega) (by decide) dX8_exchange_68 ?_
  refine m_iast (24 * c + p) (zl_a rfl rfl) rfl (by omega) (by decide) dX8_exchange_69 ?_
  refine z_aload_n rfl rfl dX8_exchange_70 ?_
  refine m_getR (133) kf_X8_56 (zl_a rfl rfl) rfl rfl (by decide) dX8_exchange_71 ?_
  refine z_iload_n rfl rfl dX8_exchange_74 ?_
  refine z_iload_n rfl rfl dX8_exchange_75 ?_
  refine z_callS (as := [.int (nI c), .int (nI q)]) (ct_X8_spot (c) (q)) ko_X8_spot kl_X8_122 rfl rfl ⟨by decide, by decide, by decide, by decide⟩ (Nat.le_of_ble_eq_true rfl) rfl dX8_exchange_76 ?_
  refine z_iload rfl dX8_exchange_79 ?_
  refine m_iast (24 * c + q) (zl_a rfl rfl) rfl (by omega) (by decide) dX8_exchange_81 ?_
  exact z_vret (rfl) rfl (by decide) (by decide) dX8_exchange_82
set_option maxRecDepth 100000 in
set_option maxHeartbeats 4000000 in
theorem ctx_X8_paint {E : Nat × (Nat → Int32)} {μ : Nat → Nat → Int32} {g : Int64} {nc : Nat} (hnc : μ 117 13 = nI nc) (hn12 : nc ≤ 12) {ni : Nat} (hni : μ 117 23 = nI ni) (hi20 : ni ≤ 20) {p q : Int32} (hbad : ¬ (zrg nc p ∧ zrg ni q)) : zCt E kX8_paint [.ref (117), .int (p), .int (q)] (zm μ g) (.inl (some (.int (nI 0))), zm ((zu μ 117 0 (nI 1))) g) := by
  refine zCt_of ko_X8_paint (Nat.le_of_ble_eq_true rfl) (zas_r (zas_i (zas_i zas_0))) ⟨Nat.le_refl _, fun h => absurd h (Nat.lt_irrefl _)⟩ (Nat.le_of_ble_eq_true rfl) ?_
  show zV false E kX8_paint 145 _ 0 [.ref (117), .int (p), .int (q), .null] [] (zm μ g) 0 0
  refine z_aload_n rfl rfl dX8_paint_0 ?_
  refine z_aload_n rfl rfl dX8_paint_1 ?_
  refine z_iload_n rfl rfl dX8_paint_2 ?_
  refine z_callV (as := [.int (p)]) (ctg_X8_isChart hnc hn12 (p)) ko_X8_isChart kl_X8_136 rfl (zl_a rfl rfl) rfl rfl ⟨by decide, by decide, by decide, by decide⟩ (Nat.le_of_ble_eq_true rfl) rfl dX8_paint_3 ?_
  refine z_if_eq 21 (by decide) dX8_paint_6 (z_br zb_0 (fun h1 => ?_)) (z_br zb_n (fun h2 => ?_))
  · refine z_iconst (nI 1) (by decide) dX8_paint_21 ?_
    refine m_putI kf_X8_92 (zl_a rfl rfl) rfl dX8_paint_22 ?_
    refine z_aload_n rfl rfl dX8_paint_25 ?_
    refine m_getI kf_X8_92 (zl_a rfl rfl) rfl dX8_paint_26 ?_
    refine m_eqv (w := nI 1) (rfl) ?_
    refine z_if_le 34 (by decide) dX8_paint_29 (fun h => absurd h (by decide)) (fun _ => ?_)
    refine z_iconst (nI 0) (by decide) dX8_paint_32 ?_
    exact z_iret (rfl) rfl rfl (by decide) (by decide) dX8_paint_33
  · refine z_aload_n rfl rfl dX8_paint_9 ?_
    refine z_iload_n rfl rfl dX8_paint_10 ?_
    refine z_callV (as := [.int (q)]) (ctg_X8_isIsland hni hi20 (q)) ko_X8_isIsland kl_X8_158 rfl (zl_a rfl rfl) rfl rfl ⟨by decide, by decide, by decide, by decide⟩ (Nat.le_of_ble_eq_true rfl) rfl dX8_paint_11 ?_
    refine z_if_eq 21 (by decide) dX8_paint_14 (z_br zb_0 (fun h3 => ?_)) (z_br zb_n (fun h4 => ?_))
    · refine z_iconst (nI 1) (by decide) dX8_paint_21 ?_
      refine m_putI kf_X8_92 (zl_a rfl rfl) rfl dX8_paint_22 ?_
      refine z_aload_n rfl rfl dX8_paint_25 ?_
      refine m_getI kf_X8_92 (zl_a rfl rfl) rfl dX8_paint_26 ?_
      refine m_eqv (w := nI 1) (rfl) ?_
      refine z_if_le 34 (by decide) dX8_paint_29 (fun h => absurd h (by decide)) (fun _ => ?_)
      refine z_iconst (nI 0) (by decide) dX8_paint_32 ?_
      exact z_iret (rfl) rfl rfl (by decide) (by decide) dX8_paint_33
    · exact absurd (by repeat' (first | assumption | apply And.intro)) hbad
set_option maxRecDepth 100000 in
set_option maxHeartbeats 4000000 in
theorem ct_X8_paint {E : Nat × (Nat → Int32)} {μ : Nat → Nat → Int32} {g : Int64} {nc : Nat} (hnc : μ 117 13 = nI nc) (hn12 : nc ≤ 12) {ni : Nat} (hni : μ 117 23 = nI ni) (hi20 : ni ≤ 20) {c i : Nat} (hc : c < nc) (hi : i < ni) (hB : μ 140 (20 * c + i) = 0 ∨ μ 140 (20 * c + i) = 1)  : zCt E kX8_paint [.ref (117), .int (nI c), .int (nI i)] (zm μ g) ((.inl (some (.int (μ 140 (20 * c + i)))), zm (zu (zu μ 117 0 (nI 0)) 140 (20 * c + i) (nI 0)) g) : zO) := by
  refine zCt_of ko_X8_paint (Nat.le_of_ble_eq_true rfl) (zas_r (zas_i (zas_i zas_0))) ⟨Nat.le_refl _, fun h => absurd h (Nat.lt_irrefl _)⟩ (Nat.le_of_ble_eq_true rfl) ?_
  show zV false E kX8_paint 145 _ 0 [.ref (117), .int (nI c), .int (nI i), .null] [] (zm μ g) 0 0
  refine z_aload_n rfl rfl dX8_paint_0 ?_
  refine z_aload_n rfl rfl dX8_paint_1 ?_
  refine z_iload_n rfl rfl dX8_paint_2 ?_
  refine z_callV (as := [.int (nI c)]) (ct_X8_isChart hnc hn12 (j := c) (by omega)) ko_X8_isChart kl_X8_136 rfl (zl_a rfl rfl) rfl rfl ⟨by decide, by decide, by decide, by decide⟩ (Nat.le_of_ble_eq_true rfl) rfl dX8_paint_3 ?_
  refine z_if_eq 21 (by decide) dX8_paint_6 (fun h => absurd h (by decide)) (fun _ => ?_)
  refine z_aload_n rfl rfl dX8_paint_9 ?_
  refine z_iload_n rfl rfl dX8_paint_10 ?_
  refine z_callV (as := [.int (nI i)]) (ct_X8_isIsland hni hi20 (j := i) (by omega)) ko_X8_isIsland kl_X8_158 rfl (zl_a rfl rfl) rfl rfl ⟨by decide, by decide, by decide, by decide⟩ (Nat.le_of_ble_eq_true rfl) rfl dX8_paint_11 ?_
  refine z_if_eq 21 (by decide) dX8_paint_14 (fun h => absurd h (by decide)) (fun _ => ?_)
  refine z_iconst (nI 0) (by decide) dX8_paint_17 ?_
  refine z_goto 22 (by decide) dX8_paint_18 ?_
  refine m_putI kf_X8_92 (zl_a rfl rfl) rfl dX8_paint_22 ?_
  refine z_aload_n rfl rfl dX8_paint_25 ?_
  refine m_getI kf_X8_92 (zl_a rfl rfl) rfl dX8_paint_26 ?_
  refine m_eqv (w := nI 0) (rfl) ?_
  refine z_if_le 34 (by decide) dX8_paint_29 (fun _ => ?_) (fun h => absurd h (by decide))
  refine z_aload_n rfl rfl dX8_paint_34 ?_
  refine m_getR (140) kf_X8_77 (zl_a rfl rfl) rfl rfl (by decide) dX8_paint_35 ?_
  refine z_bipush (nI 20) (by decide) dX8_paint_38 ?_
  refine z_iload_n rfl rfl dX8_paint_40 ?_
  refine m_mulN dX8_paint_41 ?_
  refine z_iload_n rfl rfl dX8_paint_42 ?_
  refine m_addN dX8_paint_43 ?_
  refine m_zald ((20 * c) + i) (zl_a rfl rfl) rfl (by omega) (by decide) dX8_paint_44 ?_
  refine z_istore_n rfl (by decide) rfl dX8_paint_45 ?_
  refine z_aload_n rfl rfl dX8_paint_46 ?_
  refine m_getR (140) kf_X8_77 (zl_a rfl rfl) rfl rfl (by decide) dX8_paint_47 ?_
  refine z_bipush (nI 20) (by decide) dX8_paint_50 ?_
  refine z_iload_n rfl rfl dX8_paint_52 ?_
  refine m_mulN dX8_paint_53 ?_
  refine z_iload_n rfl rfl dX8_paint_54 ?_
  refine m_addN dX8_paint_55 ?_
  refine z_iconst (nI 0) (by decide) dX8_paint_56 ?_
  refine m_zast ((20 * c) + i) (zl_a rfl rfl) rfl (by omega) (by decide) (by decide) dX8_paint_57 ?_
  refine z_iload_n rfl rfl dX8_paint_58 ?_
  exact z_iret (rfl) rfl (zbn0 hB) (by decide) (by decide) dX8_paint_59
set_option maxRecDepth 100000 in
set_option maxHeartbeats 4000000 in
theorem ct_X8_told1 {E : Nat × (Nat → Int32)} {μ : Nat → Nat → Int32} {g : Int64} {nr : Nat} (hnr : μ 117 8 = nI nr) (hr60 : nr ≤ 60) {i : Nat} (hi : i < nr)  : zCt E kX8_told [.ref (117), .int (nI i), .int (nI 1)] (zm μ g) ((.inl (some (.int (μ 126 i))), zm (zu μ 117 0 (nI 0)) g) : zO) := by
  refine zCt_of ko_X8_told (Nat.le_of_ble_eq_true rfl) (zas_r (zas_i (zas_i zas_0))) ⟨Nat.le_refl _, fun h => absurd h (Nat.lt_irrefl _)⟩ (Nat.le_of_ble_eq_true rfl) ?_
  show zV false E kX8_told 145 _ 0 [.ref (117), .int (nI i), .int (nI 1)] [] (zm μ g) 0 0
  refine z_aload_n rfl rfl dX8_told_0 ?_
  refine z_iload_n rfl rfl dX8_told_1 ?_
  refine z_iconst (nI 0) (by decide) dX8_told_2 ?_
  refine z_aload_n rfl rfl dX8_told_3 ?_
  refine m_getI kf_X8_116 (zl_a rfl rfl) rfl dX8_told_4 ?_
  refine m_eqv (w := nI nr) (hnr) ?_
  refine z_iconst (nI 1) (by decide) dX8_told_7 ?_
  refine m_subN (by omega) dX8_told_8 ?_
  refine z_callS (as := [.int (nI i), .int (nI 0), .int (nI (nr - 1))]) (ct_X8_isInN (l := 0) (j := i) (h := nr - 1) (by omega) (by omega) (by omega)) ko_X8_isIn kl_X8_96 rfl rfl ⟨by decide, by decide, by decide, by decide⟩ (Nat.le_of_ble_eq_true rfl) rfl dX8_told_9 ?_
  refine z_if_eq 19 (by decide) dX8_told_12 (fun h => absurd h (by decide)) (fun _ => ?_)
  refine z_iconst (nI 0) (by decide) dX8_told_15 ?_
  refine z_goto 20 (by decide) dX8_told_16 ?_
  refine m_putI kf_X8_92 (zl_a rfl rfl) rfl dX8_told_20 ?_
  refine z_aload_n rfl rfl dX8_told_23 ?_
  refine m_getI kf_X8_92 (zl_a rfl rfl) rfl dX8_told_24 ?_
  refine m_eqv (w := nI 0) (rfl) ?_
  refine z_if_le 34 (by decide) dX8_told_27 (fun _ => ?_) (fun h => absurd h (by decide))
  refine z_iload_n rfl rfl dX8_told_34 ?_
  refine z_if_eq 47 (by decide) dX8_told_35 (fun h => absurd h (by decide)) (fun _ => ?_)
  refine z_aload_n rfl rfl dX8_told_38 ?_
  refine m_getR (126) kf_X8_34 (zl_a rfl rfl) rfl rfl (by decide) dX8_told_39 ?_
  refine z_iload_n rfl rfl dX8_told_42 ?_
  refine m_iald (i) (zl_a rfl rfl) rfl (by omega) (by decide) dX8_told_43 ?_
  refine z_goto 53 (by decide) dX8_told_44 ?_
  exact z_iret (rfl) rfl (znarI _) (by decide) (by decide) dX8_told_53
set_option maxRecDepth 100000 in
set_option maxHeartbeats 4000000 in
theorem ct_X8_told0 {E : Nat × (Nat → Int32)} {μ : Nat → Nat → Int32} {g : Int64} {nr : Nat} (hnr : μ 117 8 = nI nr) (hr60 : nr ≤ 60) {i : Nat} (hi : i < nr)  : zCt E kX8_told [.ref (117), .int (nI i), .int (nI 0)] (zm μ g) ((.inl (some (.int (μ 127 i))), zm (zu μ 117 0 (nI 0)) g) : zO) := by
  refine zCt_of ko_X8_told (Nat.le_of_ble_eq_true rfl) (zas_r (zas_i (zas_i zas_0))) ⟨Nat.le_refl _, fun h => absurd h (Nat.lt_irrefl _)⟩ (Nat.le_of_ble_eq_true rfl) ?_
  show zV false E kX8_told 145 _ 0 [.ref (117), .int (nI i), .int (nI 0)] [] (zm μ g) 0 0
  refine z_aload_n rfl rfl dX8_told_0 ?_
  refine z_iload_n rfl rfl dX8_told_1 ?_
  refine z_iconst (nI 0) (by decide) dX8_told_2 ?_
  refine z_aload_n rfl rfl dX8_told_3 ?_
  refine m_getI kf_X8_116 (zl_a rfl rfl) rfl dX8_told_4 ?_
  refine m_eqv (w := nI nr) (hnr) ?_
  refine z_iconst (nI 1) (by decide) dX8_told_7 ?_
  refine m_subN (by omega) dX8_told_8 ?_
  refine z_callS (as := [.int (nI i), .int (nI 0), .int (nI (nr - 1))]) (ct_X8_isInN (l := 0) (j := i) (h := nr - 1) (by omega) (by omega) (by omega)) ko_X8_isIn kl_X8_96 rfl rfl ⟨by decide, by decide, by decide, by decide⟩ (Nat.le_of_ble_eq_true rfl) rfl dX8_told_9 ?_
  refine z_if_eq 19 (by decide) dX8_told_12 (fun h => absurd h (by decide)) (fun _ => ?_)
  refine z_iconst (nI 0) (by decide) dX8_told_15 ?_
  refine z_goto 20 (by decide) dX8_told_16 ?_
  refine m_putI kf_X8_92 (zl_a rfl rfl) rfl dX8_told_20 ?_
  refine z_aload_n rfl rfl dX8_told_23 ?_
  refine m_getI kf_X8_92 (zl_a rfl rfl) rfl dX8_told_24 ?_
  refine m_eqv (w := nI 0) (rfl) ?_
  refine z_if_le 34 (by decide) dX8_told_27 (fun _ => ?_) (fun h => absurd h (by decide))
  refine z_iload_n rfl rfl dX8_told_34 ?_
  refine z_if_eq 47 (by decide) dX8_told_35 (fun _ => ?_) (fun h => absurd h (by decide))
  refine z_aload_n rfl rfl dX8_told_47 ?_
  refine m_getR (127) kf_X8_37 (zl_a rfl rfl) rfl rfl (by decide) dX8_told_48 ?_
  refine z_iload_n rfl rfl dX8_told_51 ?_
  refine m_iald (i) (zl_a rfl rfl) rfl (by omega) (by decide) dX8_told_52 ?_
  exact z_iret (rfl) rfl (znarI _) (by decide) (by decide) dX8_told_53
set_option maxRecDepth 100000 in
set_option maxHeartbeats 4000000 in
theorem ctx_X8_told {E : Nat × (Nat → Int32)} {μ : Nat → Nat → Int32} {g : Int64} {nr : Nat} (hnr : μ 117 8 = nI nr) (hr60 : nr ≤ 60) {p q : Int32} (hbad : ¬ (zrg nr p)) : zCt E kX8_told [.ref (117), .int (p), .int (q)] (zm μ g) (.inl (some (.int (nI 0))), zm ((zu μ 117 0 (nI 1))) g) := by
  refine zCt_of ko_X8_told (Nat.le_of_ble_eq_true rfl) (zas_r (zas_i (zas_i zas_0))) ⟨Nat.le_refl _, fun h => absurd h (Nat.lt_irrefl _)⟩ (Nat.le_of_ble_eq_true rfl) ?_
  show zV false E kX8_told 145 _ 0 [.ref (117), .int (p), .int (q)] [] (zm μ g) 0 0
  refine z_aload_n rfl rfl dX8_told_0 ?_
  refine z_iload_n rfl rfl dX8_told_1 ?_
  refine z_iconst (nI 0) (by decide) dX8_told_2 ?_
  refine z_aload_n rfl rfl dX8_told_3 ?_
  refine m_getI kf_X8_116 (zl_a rfl rfl) rfl dX8_told_4 ?_
  refine m_eqv (w := nI nr) (hnr) ?_
  refine z_iconst (nI 1) (by decide) dX8_told_7 ?_
  refine z_isub dX8_told_8 ?_
  refine z_callS (as := [.int (p), .int (nI 0), .int ((nI nr) - (nI 1))]) (ct_X8_isInR (p) nr (by omega)) ko_X8_isIn kl_X8_96 rfl rfl ⟨by decide, by decide, by decide, by decide⟩ (Nat.le_of_ble_eq_true rfl) rfl dX8_told_9 ?_
  refine z_if_eq 19 (by decide) dX8_told_12 (z_br zb_0 (fun h1 => ?_)) (z_br zb_n (fun h2 => ?_))
  · refine z_iconst (nI 1) (by decide) dX8_told_19 ?_
    refine m_putI kf_X8_92 (zl_a rfl rfl) rfl dX8_told_20 ?_
    refine z_aload_n rfl rfl dX8_told_23 ?_
    refine m_getI kf_X8_92 (zl_a rfl rfl) rfl dX8_told_24 ?_
    refine m_eqv (w := nI 1) (rfl) ?_
    refine z_if_le 34 (by decide) dX8_told_27 (fun h => absurd h (by decide)) (fun _ => ?_)
    refine z_iconst (nI 0) (by decide) dX8_told_30 ?_
    refine z_goto 53 (by decide) dX8_told_31 ?_
    exact z_iret (rfl) rfl (znarI _) (by decide) (by decide) dX8_told_53
  · exact absurd (by repeat' (first | assumption | apply And.intro)) hbad
set_option maxRecDepth 100000 in
set_option maxHeartbeats 4000000 in
theorem ctx_X8_at {E : Nat × (Nat → Int32)} {μ : Nat → Nat → Int32} {g : Int64} {nc : Nat} (hnc : μ 117 13 = nI nc) (hn12 : nc ≤ 12) {p q w : Int32} (hbad : ¬ (zrg nc p ∧ zrg 24 q)) : zCt E kX8_at [.ref (117), .int (p), .int (q), .int (w)] (zm μ g) (.inl (some (.int (nI 0))), zm ((zu μ 117 0 (nI 1))) g) := by
  refine zCt_of ko_X8_at (Nat.le_of_ble_eq_true rfl) (zas_r (zas_i (zas_i (zas_i zas_0)))) ⟨Nat.le_refl _, fun h => absurd h (Nat.lt_irrefl _)⟩ (Nat.le_of_ble_eq_true rfl) ?_
  show zV false E kX8_at 145 _ 0 [.ref (117), .int (p), .int (q), .int (w), .null] [] (zm μ g) 0 0
  refine z_aload_n rfl rfl dX8_at_0 ?_
  refine z_aload_n rfl rfl dX8_at_1 ?_
  refine z_iload_n rfl rfl dX8_at_2 ?_
  refine z_callV (as := [.int (p)]) (ctg_X8_isChart hnc hn12 (p)) ko_X8_isChart kl_X8_136 rfl (zl_a rfl rfl) rfl rfl ⟨by decide, by decide, by decide, by decide⟩ (Nat.le_of_ble_eq_true rfl) rfl dX8_at_3 ?_
  refine z_if_eq 16 (by decide) dX8_at_6 (z_br zb_0 (fun h1 => ?_)) (z_br zb_n (fun h2 => ?_))
  · refine z_iconst (nI 1) (by decide) dX8_at_16 ?_
    refine z_goto 34 (by decide) dX8_at_17 ?_
    refine m_putI kf_X8_92 (zl_a rfl rfl) rfl dX8_at_34 ?_
    refine z_aload_n rfl rfl dX8_at_37 ?_
    refine m_getI kf_X8_92 (zl_a rfl rfl) rfl dX8_at_38 ?_
    refine m_eqv (w := nI 1) (rfl) ?_
    refine z_if_le 46 (by decide) dX8_at_41 (fun h => absurd h (by decide)) (fun _ => ?_)
    refine z_iconst (nI 0) (by decide) dX8_at_44 ?_
    exact z_iret (rfl) rfl (znarI _) (by decide) (by decide) dX8_at_45
  · refine z_iload_n rfl rfl dX8_at_9 ?_
    refine z_callS (as := [.int (q)]) (ctg_X8_isPoint (q)) ko_X8_isPoint kl_X8_113 rfl rfl ⟨by decide, by decide, by decide, by decide⟩ (Nat.le_of_ble_eq_true rfl) rfl dX8_at_10 ?_
    refine z_if_ne 20 (by decide) dX8_at_13 (z_br zb_n (fun h3 => ?_)) (z_br zb_0 (fun h4 => ?_))
    · exact absurd (by repeat' (first | assumption | apply And.intro)) hbad
    · refine z_iconst (nI 1) (by decide) dX8_at_16 ?_
      refine z_goto 34 (by decide) dX8_at_17 ?_
      refine m_putI kf_X8_92 (zl_a rfl rfl) rfl dX8_at_34 ?_
      refine z_aload_n rfl rfl dX8_at_37 ?_
      refine m_getI kf_X8_92 (zl_a rfl rfl) rfl dX8_at_38 ?_
      refine m_eqv (w := nI 1) (rfl) ?_
      refine z_if_le 46 (by decide) dX8_at_41 (fun h => absurd h (by decide)) (fun _ => ?_)
      refine z_iconst (nI 0) (by decide) dX8_at_44 ?_
      exact z_iret (rfl) rfl (znarI _) (by decide) (by decide) dX8_at_45
set_option maxRecDepth 100000 in
set_option maxHeartbeats 4000000 in
theorem ct_X8_at {E : Nat × (Nat → Int32)} {μ : Nat → Nat → Int32} {g : Int64} {nc : Nat} (hnc : μ 117 13 = nI nc) (hn12 : nc ≤ 12) {c p : Nat} (hc : c < nc) (hp : p < 24) {w : Nat} (hw : w < 6)  : zCt E kX8_at [.ref (117), .int (nI c), .int (nI p), .int (nI w)] (zm μ g) ((.inl (some (.int (zat8 μ c p w))), zm (zu μ 117 0 (nI 0)) g) : zO) := by
  refine zCt_of ko_X8_at (Nat.le_of_ble_eq_true rfl) (zas_r (zas_i (zas_i (zas_i zas_0)))) ⟨Nat.le_refl _, fun h => absurd h (Nat.lt_irrefl _)⟩ (Nat.le_of_ble_eq_true rfl) ?_
  show zV false E kX8_at 145 _ 0 [.ref (117), .int (nI c), .int (nI p), .int (nI w), .null] [] (zm μ g) 0 0
  refine z_aload_n rfl rfl dX8_at_0 ?_
  refine z_aload_n rfl rfl dX8_at_1 ?_
  refine z_iload_n rfl rfl dX8_at_2 ?_
  refine z_callV (as := [.int (nI c)]) (ct_X8_isChart hnc hn12 (j := c) (by omega)) ko_X8_isChart kl_X8_136 rfl (zl_a rfl rfl) rfl rfl ⟨by decide, by decide, by decide, by decide⟩ (Nat.le_of_ble_eq_true rfl) rfl dX8_at_3 ?_
  refine z_if_eq 16 (by decide) dX8_at_6 (fun h => absurd h (by decide)) (fun _ => ?_)
  refine z_iload_n rfl rfl dX8_at_9 ?_
  refine z_callS (as := [.int (nI p)]) (ct_X8_isPoint (j := p) (by omega)) ko_X8_isPoint kl_X8_113 rfl rfl ⟨by decide, by decide, by decide, by decide⟩ (Nat.le_of_ble_eq_true rfl) rfl dX8_at_10 ?_
  refine z_if_ne 20 (by decide) dX8_at_13 (fun _ => ?_) (fun h => absurd h (by decide))
  refine z_iload_n rfl rfl dX8_at_20 ?_
  refine z_iconst (nI 0) (by decide) dX8_at_21 ?_
  refine z_iconst (nI 5) (by decide) dX8_at_22 ?_
  refine z_callS (as := [.int (nI w), .int (nI 0), .int (nI 5)]) (ct_X8_isInN (l := 0) (j := w) (h := 5) (by omega) (by omega) (by omega)) ko_X8_isIn kl_X8_96 rfl rfl ⟨by decide, by decide, by decide, by decide⟩ (Nat.le_of_ble_eq_true rfl) rfl dX8_at_23 ?_
  refine z_if_ne 33 (by decide) dX8_at_26 (fun _ => ?_) (fun h => absurd h (by decide))
  refine z_iconst (nI 0) (by decide) dX8_at_33 ?_
  refine m_putI kf_X8_92 (zl_a rfl rfl) rfl dX8_at_34 ?_
  refine z_aload_n rfl rfl dX8_at_37 ?_
  refine m_getI kf_X8_92 (zl_a rfl rfl) rfl dX8_at_38 ?_
  refine m_eqv (w := nI 0) (rfl) ?_
  refine z_if_le 46 (by decide) dX8_at_41 (fun _ => ?_) (fun h => absurd h (by decide))
  refine z_bipush (nI 24) (by decide) dX8_at_46 ?_
  refine z_iload_n rfl rfl dX8_at_48 ?_
  refine m_mulN dX8_at_49 ?_
  refine z_iload_n rfl rfl dX8_at_50 ?_
  refine m_addN dX8_at_51 ?_
  refine z_istore (by decide) rfl dX8_at_52 ?_
  have hws : w = 0 ∨ w = 1 ∨ w = 2 ∨ w = 3 ∨ w = 4 ∨ w = 5 := by omega
  rcases hws with rfl | rfl | rfl | rfl | rfl | rfl
  · refine z_iload_n rfl rfl dX8_at_54 ?_
    refine z_iconst (nI 2) (by decide) dX8_at_55 ?_
    refine z_icmp_ne 67 (by decide) dX8_at_56 (fun _ => ?_) (fun h => absurd h (by decide))
    refine z_iload_n rfl rfl dX8_at_67 ?_
    refine z_iconst (nI 3) (by decide) dX8_at_68 ?_
    refine z_icmp_ne 79 (by decide) dX8_at_69 (fun _ => ?_) (fun h => absurd h (by decide))
    refine z_aload_n rfl rfl dX8_at_79 ?_
    refine m_getR (130) kf_X8_46 (zl_a rfl rfl) rfl rfl (by decide) dX8_at_80 ?_
    refine z_iload rfl dX8_at_83 ?_
    refine m_zald ((24 * c) + p) (zl_a rfl rfl) rfl (by omega) (by decide) dX8_at_85 ?_
    refine z_if_ne 92 (by decide) dX8_at_86 (fun h1 => ?_) (fun h2 => ?_)
    · refine z_iload_n rfl rfl dX8_at_92 ?_
      refine z_if_ne 106 (by decide) dX8_at_93 (fun h => absurd h (by decide)) (fun _ => ?_)
      refine z_aload_n rfl rfl dX8_at_96 ?_
      refine m_getR (131) kf_X8_50 (zl_a rfl rfl) rfl rfl (by decide) dX8_at_97 ?_
      refine z_iload rfl dX8_at_100 ?_
      refine m_iald ((24 * c) + p) (zl_a rfl rfl) rfl (by omega) (by decide) dX8_at_102 ?_
      refine z_goto 157 (by decide) dX8_at_103 ?_
      exact z_iret (zlf_int (if_neg h1)) rfl (znarI _) (by decide) (by decide) dX8_at_157
    · refine z_ldc (100000) kc_X8_161 dX8_at_89 ?_
      exact z_iret (zlf_int (if_pos h2)) rfl (znarI _) (by decide) (by decide) dX8_at_91
  · refine z_iload_n rfl rfl dX8_at_54 ?_
    refine z_iconst (nI 2) (by decide) dX8_at_55 ?_
    refine z_icmp_ne 67 (by decide) dX8_at_56 (fun _ => ?_) (fun h => absurd h (by decide))
    refine z_iload_n rfl rfl dX8_at_67 ?_
    refine z_iconst (nI 3) (by decide) dX8_at_68 ?_
    refine z_icmp_ne 79 (by decide) dX8_at_69 (fun _ => ?_) (fun h => absurd h (by decide))
    refine z_aload_n rfl rfl dX8_at_79 ?_
    refine m_getR (130) kf_X8_46 (zl_a rfl rfl) rfl rfl (by decide) dX8_at_80 ?_
    refine z_iload rfl dX8_at_83 ?_
    refine m_zald ((24 * c) + p) (zl_a rfl rfl) rfl (by omega) (by decide) dX8_at_85 ?_
    refine z_if_ne 92 (by decide) dX8_at_86 (fun h3 => ?_) (fun h4 => ?_)
    · refine z_iload_n rfl rfl dX8_at_92 ?_
      refine z_if_ne 106 (by decide) dX8_at_93 (fun _ => ?_) (fun h => absurd h (by decide))
      refine z_iload_n rfl rfl dX8_at_106 ?_
      refine z_iconst (nI 1) (by decide) dX8_at_107 ?_
      refine z_icmp_ne 121 (by decide) dX8_at_108 (fun h => absurd h (by decide)) (fun _ => ?_)
      refine z_aload_n rfl rfl dX8_at_111 ?_
      refine m_getR (132) kf_X8_53 (zl_a rfl rfl) rfl rfl (by decide) dX8_at_112 ?_
      refine z_iload rfl dX8_at_115 ?_
      refine m_iald ((24 * c) + p) (zl_a rfl rfl) rfl (by omega) (by decide) dX8_at_117 ?_
      refine z_goto 157 (by decide) dX8_at_118 ?_
      exact z_iret (zlf_int (if_neg h3)) rfl (znarI _) (by decide) (by decide) dX8_at_157
    · refine z_ldc (100000) kc_X8_161 dX8_at_89 ?_
      exact z_iret (zlf_int (if_pos h4)) rfl (znarI _) (by decide) (by decide) dX8_at_91
  · refine z_iload_n rfl rfl dX8_at_54 ?_
    refine z_iconst (nI 2) (by decide) dX8_at_55 ?_
    refine z_icmp_ne 67 (by decide) dX8_at_56 (fun h => absurd h (by decide)) (fun _ => ?_)
    refine z_aload_n rfl rfl dX8_at_59 ?_
    refine m_getR (133) kf_X8_56 (zl_a rfl rfl) rfl rfl (by decide) dX8_at_60 ?_
    refine z_iload rfl dX8_at_63 ?_
    refine m_iald ((24 * c) + p) (zl_a rfl rfl) rfl (by omega) (by decide) dX8_at_65 ?_
    exact z_iret (rfl) rfl (znarI _) (by decide) (by decide) dX8_at_66
  · refine z_iload_n rfl rfl dX8_at_54 ?_
    refine z_iconst (nI 2) (by decide) dX8_at_55 ?_
    refine z_icmp_ne 67 (by decide) dX8_at_56 (fun _ => ?_) (fun h => absurd h (by decide))
    refine z_iload_n rfl rfl dX8_at_67 ?_
    refine z_iconst (nI 3) (by decide) dX8_at_68 ?_
    refine z_icmp_ne 79 (by decide) dX8_at_69 (fun h => absurd h (by decide)) (fun _ => ?_)
    refine z_aload_n rfl rfl dX8_at_72 ?_
    refine z_iload_n rfl rfl dX8_at_73 ?_
    refine z_iload_n rfl rfl dX8_at_74 ?_
    refine z_callV (as := [.int (nI c), .int (nI p)]) (ct_X8_next (c := c) (p := p) (by omega) (by omega)) ko_X8_next kl_X8_143 rfl (zl_a rfl rfl) rfl rfl ⟨by decide, by decide, by decide, by decide⟩ (Nat.le_of_ble_eq_true rfl) rfl dX8_at_75 ?_
    exact z_iret (rfl) rfl (znarI _) (by decide) (by decide) dX8_at_78
  · refine z_iload_n rfl rfl dX8_at_54 ?_
    refine z_iconst (nI 2) (by decide) dX8_at_55 ?_
    refine z_icmp_ne 67 (by decide) dX8_at_56 (fun _ => ?_) (fun h => absurd h (by decide))
    refine z_iload_n rfl rfl dX8_at_67 ?_
    refine z_iconst (nI 3) (by decide) dX8_at_68 ?_
    refine z_icmp_ne 79 (by decide) dX8_at_69 (fun _ => ?_) (fun h => absurd h (by decide))
    refine z_aload_n rfl rfl dX8_at_79 ?_
    refine m_getR (130) kf_X8_46 (zl_a rfl rfl) rfl rfl (by decide) dX8_at_80 ?_
    refine z_iload rfl dX8_at_83 ?_
    refine m_zald ((24 * c) + p) (zl_a rfl rfl) rfl (by omega) (by decide) dX8_at_85 ?_
    refine z_if_ne 92 (by decide) dX8_at_86 (fun h5 => ?_) (fun h6 => ?_)
    · refine z_iload_n rfl rfl dX8_at_92 ?_
      refine z_if_ne 106 (by decide) dX8_at_93 (fun _ => ?_) (fun h => absurd h (by decide))
      refine z_iload_n rfl rfl dX8_at_106 ?_
      refine z_iconst (nI 1) (by decide) dX8_at_107 ?_
      refine z_icmp_ne 121 (by decide) dX8_at_108 (fun _ => ?_) (fun h => absurd h (by decide))
      refine z_iload_n rfl rfl dX8_at_121 ?_
      refine z_iconst (nI 4) (by decide) dX8_at_122 ?_
      refine z_icmp_ne 143 (by decide) dX8_at_123 (fun h => absurd h (by decide)) (fun _ => ?_)
      refine z_aload_n rfl rfl dX8_at_126 ?_
      refine m_getR (131) kf_X8_50 (zl_a rfl rfl) rfl rfl (by decide) dX8_at_127 ?_
      refine z_iload rfl dX8_at_130 ?_
      refine m_iald ((24 * c) + p) (zl_a rfl rfl) rfl (by omega) (by decide) dX8_at_132 ?_
      refine z_aload_n rfl rfl dX8_at_133 ?_
      refine m_getR (118) kf_X8_7 (zl_a rfl rfl) rfl rfl (by decide) dX8_at_134 ?_
      refine z_iload_n rfl rfl dX8_at_137 ?_
      refine m_iald (p) (zl_a rfl rfl) rfl (by omega) (by decide) dX8_at_138 ?_
      refine z_isub dX8_at_139 ?_
      refine z_goto 157 (by decide) dX8_at_140 ?_
      exact z_iret (zlf_int (if_neg h5)) rfl (znarI _) (by decide) (by decide) dX8_at_157
    · refine z_ldc (100000) kc_X8_161 dX8_at_89 ?_
      exact z_iret (zlf_int (if_pos h6)) rfl (znarI _) (by decide) (by decide) dX8_at_91
  · refine z_iload_n rfl rfl dX8_at_54 ?_
    refine z_iconst (nI 2) (by decide) dX8_at_55 ?_
    refine z_icmp_ne 67 (by decide) dX8_at_56 (fun _ => ?_) (fun h => absurd h (by decide))
    refine z_iload_n rfl rfl dX8_at_67 ?_
    refine z_iconst (nI 3) (by decide) dX8_at_68 ?_
    refine z_icmp_ne 79 (by decide) dX8_at_69 (fun _ => ?_) (fun h => absurd h (by decide))
    refine z_aload_n rfl rfl dX8_at_79 ?_
    refine m_getR (130) kf_X8_46 (zl_a rfl rfl) rfl rfl (by decide) dX8_at_80 ?_
    refine z_iload rfl dX8_at_83 ?_
    refine m_zald ((24 * c) + p) (zl_a rfl rfl) rfl (by omega) (by decide) dX8_at_85 ?_
    refine z_if_ne 92 (by decide) dX8_at_86 (fun h7 => ?_) (fun h8 => ?_)
    · refine z_iload_n rfl rfl dX8_at_92 ?_
      refine z_if_ne 106 (by decide) dX8_at_93 (fun _ => ?_) (fun h => absurd h (by decide))
      refine z_iload_n rfl rfl dX8_at_106 ?_
      refine z_iconst (nI 1) (by decide) dX8_at_107 ?_
      refine z_icmp_ne 121 (by decide) dX8_at_108 (fun _ => ?_) (fun h => absurd h (by decide))
      refine z_iload_n rfl rfl dX8_at_121 ?_
      refine z_iconst (nI 4) (by decide) dX8_at_122 ?_
      refine z_icmp_ne 143 (by decide) dX8_at_123 (fun _ => ?_) (fun h => absurd h (by decide))
      refine z_aload_n rfl rfl dX8_at_143 ?_
      refine m_getR (132) kf_X8_53 (zl_a rfl rfl) rfl rfl (by decide) dX8_at_144 ?_
      refine z_iload rfl dX8_at_147 ?_
      refine m_iald ((24 * c) + p) (zl_a rfl rfl) rfl (by omega) (by decide) dX8_at_149 ?_
      refine z_aload_n rfl rfl dX8_at_150 ?_
      refine m_getR (119) kf_X8_13 (zl_a rfl rfl) rfl rfl (by decide) dX8_at_151 ?_
      refine z_iload_n rfl rfl dX8_at_154 ?_
      refine m_iald (p) (zl_a rfl rfl) rfl (by omega) (by decide) dX8_at_155 ?_
      refine z_isub dX8_at_156 ?_
      exact z_iret (zlf_int (if_neg h7)) rfl (znarI _) (by decide) (by decide) dX8_at_157
    · refine z_ldc (100000) kc_X8_161 dX8_at_89 ?_
      exact z_iret (zlf_int (if_pos h8)) rfl (znarI _) (by decide) (by decide) dX8_at_91
set_option maxRecDepth 100000 in
set_option maxHeartbeats 4000000 in
theorem cta_X8_at {E : Nat × (Nat → Int32)} {μ : Nat → Nat → Int32} {g : Int64} {nc : Nat} (hnc : μ 117 13 = nI nc) (hn12 : nc ≤ 12) {c p : Nat} (hc : c < nc) (hp : p < 24) {w : Int32} (hw : ¬ zrg 6 w)  : zCt E kX8_at [.ref (117), .int (nI c), .int (nI p), .int (w)] (zm μ g) ((.inl (some (.int (nI 0))), zm (zu μ 117 0 (nI 2)) g) : zO) := by
  refine zCt_of ko_X8_at (Nat.le_of_ble_eq_true rfl) (zas_r (zas_i (zas_i (zas_i zas_0)))) ⟨Nat.le_refl _, fun h => absurd h (Nat.lt_irrefl _)⟩ (Nat.le_of_ble_eq_true rfl) ?_
  show zV false E kX8_at 145 _ 0 [.ref (117), .int (nI c), .int (nI p), .int (w), .null] [] (zm μ g) 0 0
  refine z_aload_n rfl rfl dX8_at_0 ?_
  refine z_aload_n rfl rfl dX8_at_1 ?_
  refine z_iload_n rfl rfl dX8_at_2 ?_
  refine z_callV (as := [.int (nI c)]) (ct_X8_isChart hnc hn12 (j := c) (by omega)) ko_X8_isChart kl_X8_136 rfl (zl_a rfl rfl) rfl rfl ⟨by decide, by decide, by decide, by decide⟩ (Nat.le_of_ble_eq_true rfl) rfl dX8_at_3 ?_
  refine z_if_eq 16 (by decide) dX8_at_6 (fun h => absurd h (by decide)) (fun _ => ?_)
  refine z_iload_n rfl rfl dX8_at_9 ?_
  refine z_callS (as := [.int (nI p)]) (ct_X8_isPoint (j := p) (by omega)) ko_X8_isPoint kl_X8_113 rfl rfl ⟨by decide, by decide, by decide, by decide⟩ (Nat.le_of_ble_eq_true rfl) rfl dX8_at_10 ?_
  refine z_if_ne 20 (by decide) dX8_at_13 (fun _ => ?_) (fun h => absurd h (by decide))
  refine z_iload_n rfl rfl dX8_at_20 ?_
  refine z_iconst (nI 0) (by decide) dX8_at_21 ?_
  refine z_iconst (nI 5) (by decide) dX8_at_22 ?_
  refine z_callS (as := [.int (w), .int (nI 0), .int (nI 5)]) (ct_X8_isInZ (w) 5 (by decide)) ko_X8_isIn kl_X8_96 rfl rfl ⟨by decide, by decide, by decide, by decide⟩ (Nat.le_of_ble_eq_true rfl) rfl dX8_at_23 ?_
  refine z_if_ne 33 (by decide) dX8_at_26 (z_br zb_n (fun h1 => ?_)) (z_br zb_0 (fun h2 => ?_))
  · exact absurd (by assumption) hw
  · refine z_iconst (nI 2) (by decide) dX8_at_29 ?_
    refine z_goto 34 (by decide) dX8_at_30 ?_
    refine m_putI kf_X8_92 (zl_a rfl rfl) rfl dX8_at_34 ?_
    refine z_aload_n rfl rfl dX8_at_37 ?_
    refine m_getI kf_X8_92 (zl_a rfl rfl) rfl dX8_at_38 ?_
    refine m_eqv (w := nI 2) (rfl) ?_
    refine z_if_le 46 (by decide) dX8_at_41 (fun h => absurd h (by decide)) (fun _ => ?_)
    refine z_iconst (nI 0) (by decide) dX8_at_44 ?_
    exact z_iret (rfl) rfl (znarI _) (by decide) (by decide) dX8_at_45
