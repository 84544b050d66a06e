/-! the class: public methods (printed by wip/whole/gen_f.py) -/
set_option maxRecDepth 100000 in
set_option maxHeartbeats 4000000 in
theorem ct_X7_coast {E : Nat × (Nat → Int32)} {μ : Nat → Nat → Int32} {g : zLw} {nr : Nat} (hnr : μ 10 4 = nI nr) (hr60 : nr ≤ 60) {j : Nat} (hj : j < 24) {x y n t : Int32} : zCt E kX7_coast [.ref (1), .int (nI j), .int (x), .int (y), .int (n), .int (t)] (zm μ g) (if ¬ (zin x (nI 500) ∧ zin y (nI 500) ∧ znm n ∧ zyr t) then (.inr xA, zm μ g) else if 0 < nr then (.inr xS, zm μ g) else (.inl none, zm (zu (zu (zu (zu μ 3 j x) 4 j y) 5 j n) 6 j t) g) : zO) := by
  refine zCt_of ko_X7_coast (Nat.le_of_ble_eq_true rfl) (zas_r (zas_i (zas_i (zas_i (zas_i (zas_i zas_0)))))) (zMM (zifn rfl (zifn rfl rfl))) (Nat.le_of_ble_eq_true rfl) ?_
  show zV false E kX7_coast 116 _ 0 [.ref (1), .int (nI j), .int (x), .int (y), .int (n), .int (t)] [] (zm μ g) 0 0
  refine z_iload_n rfl rfl dX7_coast_0 ?_
  refine z_callS (as := [.int (nI j)]) (ct_X7_needPoint (j := j) (by omega)) ko_X7_needPoint kl_X7_62 rfl rfl ⟨by decide, by decide, by decide, by decide⟩ (Nat.le_of_ble_eq_true rfl) rfl dX7_coast_1 ?_
  refine z_iload_n rfl rfl dX7_coast_4 ?_
  refine z_sipush (nI 500) (by decide) dX7_coast_5 ?_
  refine z_callS (as := [.int (x), .int (nI 500)]) (ct_X7_isWithin (x) (nI 500)) ko_X7_isWithin kl_X7_66 rfl rfl ⟨by decide, by decide, by decide, by decide⟩ (Nat.le_of_ble_eq_true rfl) rfl dX7_coast_8 ?_
  refine z_if_eq 40 (by decide) dX7_coast_11 (z_br zb_0 (fun h1 => ?_)) (z_br zb_n (fun h2 => ?_))
  · exact z_throw (text := "x, y, name or year is out of range") ((if_pos (fun q => by first | exact absurd q.1 (by assumption) | exact q.1 (by assumption) | exact absurd q.2.1 (by assumption) | exact q.2.1 (by assumption) | exact absurd q.2.2.1 (by assumption) | exact q.2.2.1 (by assumption) | exact absurd q.2.2.2 (by assumption) | exact q.2.2.2 (by assumption))).trans (rfl)) kt_77 (by decide +kernel) rfl (by decide) (Nat.le_of_ble_eq_true rfl) (by decide) (by decide) dX7_coast_40 dX7_coast_43 dX7_coast_44 dX7_coast_46 dX7_coast_49
  · refine z_iload_n rfl rfl dX7_coast_14 ?_
    refine z_sipush (nI 500) (by decide) dX7_coast_15 ?_
    refine z_callS (as := [.int (y), .int (nI 500)]) (ct_X7_isWithin (y) (nI 500)) ko_X7_isWithin kl_X7_66 rfl rfl ⟨by decide, by decide, by decide, by decide⟩ (Nat.le_of_ble_eq_true rfl) rfl dX7_coast_18 ?_
    refine z_if_eq 40 (by decide) dX7_coast_21 (z_br zb_0 (fun h3 => ?_)) (z_br zb_n (fun h4 => ?_))
    · exact z_throw (text := "x, y, name or year is out of range") ((if_pos (fun q => by first | exact absurd q.1 (by assumption) | exact q.1 (by assumption) | exact absurd q.2.1 (by assumption) | exact q.2.1 (by assumption) | exact absurd q.2.2.1 (by assumption) | exact q.2.2.1 (by assumption) | exact absurd q.2.2.2 (by assumption) | exact q.2.2.2 (by assumption))).trans (rfl)) kt_77 (by decide +kernel) rfl (by decide) (Nat.le_of_ble_eq_true rfl) (by decide) (by decide) dX7_coast_40 dX7_coast_43 dX7_coast_44 dX7_coast_46 dX7_coast_49
    · refine z_iload rfl dX7_coast_24 ?_
      refine z_callS (as := [.int (n)]) (ct_X7_isName (n)) ko_X7_isName kl_X7_70 rfl rfl ⟨by decide, by decide, by decide, by decide⟩ (Nat.le_of_ble_eq_true rfl) rfl dX7_coast_26 ?_
      refine z_if_eq 40 (by decide) dX7_coast_29 (z_br zb_0 (fun h5 => ?_)) (z_br zb_n (fun h6 => ?_))
      · exact z_throw (text := "x, y, name or year is out of range") ((if_pos (fun q => by first | exact absurd q.1 (by assumption) | exact q.1 (by assumption) | exact absurd q.2.1 (by assumption) | exact q.2.1 (by assumption) | exact absurd q.2.2.1 (by assumption) | exact q.2.2.1 (by assumption) | exact absurd q.2.2.2 (by assumption) | exact q.2.2.2 (by assumption))).trans (rfl)) kt_77 (by decide +kernel) rfl (by decide) (Nat.le_of_ble_eq_true rfl) (by decide) (by decide) dX7_coast_40 dX7_coast_43 dX7_coast_44 dX7_coast_46 dX7_coast_49
      · refine z_iload rfl dX7_coast_32 ?_
        refine z_callS (as := [.int (t)]) (ct_X7_isYear (t)) ko_X7_isYear kl_X7_74 rfl rfl ⟨by decide, by decide, by decide, by decide⟩ (Nat.le_of_ble_eq_true rfl) rfl dX7_coast_34 ?_
        refine z_if_ne 50 (by decide) dX7_coast_37 (z_br zb_n (fun h7 => ?_)) (z_br zb_0 (fun h8 => ?_))
        · refine z_aload_n rfl rfl dX7_coast_50 ?_
          refine m_getR (10) kf_X7_26 (zl_a rfl rfl) rfl rfl (by decide) dX7_coast_51 ?_
          refine m_getI kf_X7_84 (zl_a rfl rfl) rfl dX7_coast_54 ?_
          refine m_eqv (w := nI nr) (hnr) ?_
          refine z_if_le 70 (by decide) dX7_coast_57 (z_br (z0l (n := nr) (by omega)) (fun h9 => ?_)) (z_brn (z0l (n := nr) (by omega)) (fun h10 => ?_))
          · refine z_aload_n rfl rfl dX7_coast_70 ?_
            refine m_getR (2) kf_X7_10 (zl_a rfl rfl) rfl rfl (by decide) dX7_coast_71 ?_
            refine m_getR (3) kf_X7_92 (zl_a rfl rfl) rfl rfl (by decide) dX7_coast_74 ?_
            refine z_iload_n rfl rfl dX7_coast_77 ?_
            refine z_iload_n rfl rfl dX7_coast_78 ?_
            refine m_iast (j) (zl_a rfl rfl) rfl (by omega) (by decide) dX7_coast_79 ?_
            refine z_aload_n rfl rfl dX7_coast_80 ?_
            refine m_getR (2) kf_X7_10 (zl_a rfl rfl) rfl rfl (by decide) dX7_coast_81 ?_
            refine m_getR (4) kf_X7_96 (zl_a rfl rfl) rfl rfl (by decide) dX7_coast_84 ?_
            refine z_iload_n rfl rfl dX7_coast_87 ?_
            refine z_iload_n rfl rfl dX7_coast_88 ?_
            refine m_iast (j) (zl_a rfl rfl) rfl (by omega) (by decide) dX7_coast_89 ?_
            refine z_aload_n rfl rfl dX7_coast_90 ?_
            refine m_getR (2) kf_X7_10 (zl_a rfl rfl) rfl rfl (by decide) dX7_coast_91 ?_
            refine m_getR (5) kf_X7_99 (zl_a rfl rfl) rfl rfl (by decide) dX7_coast_94 ?_
            refine z_iload_n rfl rfl dX7_coast_97 ?_
            refine z_iload rfl dX7_coast_98 ?_
            refine m_iast (j) (zl_a rfl rfl) rfl (by omega) (by decide) dX7_coast_100 ?_
            refine z_aload_n rfl rfl dX7_coast_101 ?_
            refine m_getR (2) kf_X7_10 (zl_a rfl rfl) rfl rfl (by decide) dX7_coast_102 ?_
            refine m_getR (6) kf_X7_102 (zl_a rfl rfl) rfl rfl (by decide) dX7_coast_105 ?_
            refine z_iload_n rfl rfl dX7_coast_108 ?_
            refine z_iload rfl dX7_coast_109 ?_
            refine m_iast (j) (zl_a rfl rfl) rfl (by omega) (by decide) dX7_coast_111 ?_
            exact z_vret ((if_neg (fun q => q ⟨by assumption, by assumption, by assumption, by assumption⟩)).trans ((if_neg (by omega)).trans (rfl))) rfl (by decide) (by decide) dX7_coast_112
          · exact z_throw (text := "there are reports") ((if_neg (fun q => q ⟨by assumption, by assumption, by assumption, by assumption⟩)).trans ((if_pos (by omega)).trans (rfl))) kt_87 (by decide +kernel) rfl (by decide) (Nat.le_of_ble_eq_true rfl) (by decide) (by decide) dX7_coast_60 dX7_coast_63 dX7_coast_64 dX7_coast_66 dX7_coast_69
        · exact z_throw (text := "x, y, name or year is out of range") ((if_pos (fun q => by first | exact absurd q.1 (by assumption) | exact q.1 (by assumption) | exact absurd q.2.1 (by assumption) | exact q.2.1 (by assumption) | exact absurd q.2.2.1 (by assumption) | exact q.2.2.1 (by assumption) | exact absurd q.2.2.2 (by assumption) | exact q.2.2.2 (by assumption))).trans (rfl)) kt_77 (by decide +kernel) rfl (by decide) (Nat.le_of_ble_eq_true rfl) (by decide) (by decide) dX7_coast_40 dX7_coast_43 dX7_coast_44 dX7_coast_46 dX7_coast_49
set_option maxRecDepth 100000 in
set_option maxHeartbeats 4000000 in
theorem ct_X7_pilot {E : Nat × (Nat → Int32)} {μ : Nat → Nat → Int32} {g : zLw} {np : Nat} (hnp : μ 7 2 = nI np) (hp6 : np ≤ 6) {x y : Int32} : zCt E kX7_pilot [.ref (1), .int (x), .int (y)] (zm μ g) (if ¬ (zin x (nI 30) ∧ zin y (nI 30)) then (.inr xA, zm μ g) else if ¬ np < 6 then (.inr xS, zm μ g) else (.inl (some (.int (nI np))), zm (zu (zu (zu μ 8 np x) 9 np y) 7 2 (nI (np + 1))) g) : zO) := by
  refine zCt_of ko_X7_pilot (Nat.le_of_ble_eq_true rfl) (zas_r (zas_i (zas_i zas_0))) (zMM (zifn rfl (zifn rfl rfl))) (Nat.le_of_ble_eq_true rfl) ?_
  show zV false E kX7_pilot 116 _ 0 [.ref (1), .int (x), .int (y), .null] [] (zm μ g) 0 0
  refine z_iload_n rfl rfl dX7_pilot_0 ?_
  refine z_bipush (nI 30) (by decide) dX7_pilot_1 ?_
  refine z_callS (as := [.int (x), .int (nI 30)]) (ct_X7_isWithin (x) (nI 30)) ko_X7_isWithin kl_X7_66 rfl rfl ⟨by decide, by decide, by decide, by decide⟩ (Nat.le_of_ble_eq_true rfl) rfl dX7_pilot_3 ?_
  refine z_if_eq 18 (by decide) dX7_pilot_6 (z_br zb_0 (fun h1 => ?_)) (z_br zb_n (fun h2 => ?_))
  · exact z_throw (text := "turn or error is out of range") ((if_pos (fun q => by first | exact absurd q.1 (by assumption) | exact q.1 (by assumption) | exact absurd q.2 (by assumption) | exact q.2 (by assumption))).trans (rfl)) kt_77 (by decide +kernel) rfl (by decide) (Nat.le_of_ble_eq_true rfl) (by decide) (by decide) dX7_pilot_18 dX7_pilot_21 dX7_pilot_22 dX7_pilot_24 dX7_pilot_27
  · refine z_iload_n rfl rfl dX7_pilot_9 ?_
    refine z_bipush (nI 30) (by decide) dX7_pilot_10 ?_
    refine z_callS (as := [.int (y), .int (nI 30)]) (ct_X7_isWithin (y) (nI 30)) ko_X7_isWithin kl_X7_66 rfl rfl ⟨by decide, by decide, by decide, by decide⟩ (Nat.le_of_ble_eq_true rfl) rfl dX7_pilot_12 ?_
    refine z_if_ne 28 (by decide) dX7_pilot_15 (z_br zb_n (fun h3 => ?_)) (z_br zb_0 (fun h4 => ?_))
    · refine z_aload_n rfl rfl dX7_pilot_28 ?_
      refine m_getR (7) kf_X7_19 (zl_a rfl rfl) rfl rfl (by decide) dX7_pilot_29 ?_
      refine m_getI kf_X7_107 (zl_a rfl rfl) rfl dX7_pilot_32 ?_
      refine m_eqv (w := nI np) (hnp) ?_
      refine z_bipush (nI 6) (by decide) dX7_pilot_35 ?_
      refine z_icmp_lt 50 (by decide) dX7_pilot_37 (z_br (zcn (n := np) (by omega) (6) (by omega)).2.1 (fun h5 => ?_)) (z_brn (zcn (n := np) (by omega) (6) (by omega)).2.1 (fun h6 => ?_))
      · refine z_aload_n rfl rfl dX7_pilot_50 ?_
        refine m_getR (7) kf_X7_19 (zl_a rfl rfl) rfl rfl (by decide) dX7_pilot_51 ?_
        refine m_getI kf_X7_107 (zl_a rfl rfl) rfl dX7_pilot_54 ?_
        refine m_eqv (w := nI np) (hnp) ?_
        refine z_istore_n rfl (by decide) rfl dX7_pilot_57 ?_
        refine z_aload_n rfl rfl dX7_pilot_58 ?_
        refine m_getR (7) kf_X7_19 (zl_a rfl rfl) rfl rfl (by decide) dX7_pilot_59 ?_
        refine m_getR (8) kf_X7_110 (zl_a rfl rfl) rfl rfl (by decide) dX7_pilot_62 ?_
        refine z_iload_n rfl rfl dX7_pilot_65 ?_
        refine z_iload_n rfl rfl dX7_pilot_66 ?_
        refine m_iast (np) (zl_a rfl rfl) rfl (by omega) (by decide) dX7_pilot_67 ?_
        refine z_aload_n rfl rfl dX7_pilot_68 ?_
        refine m_getR (7) kf_X7_19 (zl_a rfl rfl) rfl rfl (by decide) dX7_pilot_69 ?_
        refine m_getR (9) kf_X7_113 (zl_a rfl rfl) rfl rfl (by decide) dX7_pilot_72 ?_
        refine z_iload_n rfl rfl dX7_pilot_75 ?_
        refine z_iload_n rfl rfl dX7_pilot_76 ?_
        refine m_iast (np) (zl_a rfl rfl) rfl (by omega) (by decide) dX7_pilot_77 ?_
        refine z_aload_n rfl rfl dX7_pilot_78 ?_
        refine m_getR (7) kf_X7_19 (zl_a rfl rfl) rfl rfl (by decide) dX7_pilot_79 ?_
        refine z_iload_n rfl rfl dX7_pilot_82 ?_
        refine z_iconst (nI 1) (by decide) dX7_pilot_83 ?_
        refine m_addN dX7_pilot_84 ?_
        refine m_putI kf_X7_107 (zl_a rfl rfl) rfl dX7_pilot_85 ?_
        refine z_iload_n rfl rfl dX7_pilot_88 ?_
        exact z_iret ((if_neg (fun q => q ⟨by assumption, by assumption⟩)).trans ((if_neg (by omega)).trans (rfl))) rfl (znarI _) (by decide) (by decide) dX7_pilot_89
      · exact z_throw (text := "there are all the pilots") ((if_neg (fun q => q ⟨by assumption, by assumption⟩)).trans ((if_pos (by omega)).trans (rfl))) kt_87 (by decide +kernel) rfl (by decide) (Nat.le_of_ble_eq_true rfl) (by decide) (by decide) dX7_pilot_40 dX7_pilot_43 dX7_pilot_44 dX7_pilot_46 dX7_pilot_49
    · exact z_throw (text := "turn or error is out of range") ((if_pos (fun q => by first | exact absurd q.1 (by assumption) | exact q.1 (by assumption) | exact absurd q.2 (by assumption) | exact q.2 (by assumption))).trans (rfl)) kt_77 (by decide +kernel) rfl (by decide) (Nat.le_of_ble_eq_true rfl) (by decide) (by decide) dX7_pilot_18 dX7_pilot_21 dX7_pilot_22 dX7_pilot_24 dX7_pilot_27
set_option maxRecDepth 100000 in
set_option maxHeartbeats 4000000 in
theorem ct_X7_report {E : Nat × (Nat → Int32)} {μ : Nat → Nat → Int32} {g : zLw} {np : Nat} (hnp : μ 7 2 = nI np) (hp6 : np ≤ 6) {nr : Nat} (hnr : μ 10 4 = nI nr) (hr60 : nr ≤ 60) {q f t : Nat} (hq : q < np) (hf : f < 24) (ht : t < 24) : zCt E kX7_report [.ref (1), .int (nI q), .int (nI f), .int (nI t)] (zm μ g) (if f = t then (.inr xA, zm μ g) else if ¬ nr < 60 then (.inr xS, zm μ g) else (.inl (some (.int (nI nr))), zm (zu (zu (zu (zu (zu μ 11 nr (nI f)) 12 nr (nI t)) 13 nr (zrx μ q f t + zrx μ q f t * μ 9 q / nI 100)) 14 nr (zry μ q f t + zry μ q f t * μ 9 q / nI 100)) 10 4 (nI (nr + 1))) g) : zO) := by
  refine zCt_of ko_X7_report (Nat.le_of_ble_eq_true rfl) (zas_r (zas_i (zas_i (zas_i zas_0)))) (zMM (zifn rfl (zifn rfl rfl))) (Nat.le_of_ble_eq_true rfl) ?_
  show zV false E kX7_report 116 _ 0 [.ref (1), .int (nI q), .int (nI f), .int (nI t), .null, .null, .null, .null, .null] [] (zm μ g) 0 0
  refine z_iload_n rfl rfl dX7_report_0 ?_
  refine z_if_lt 15 (by decide) dX7_report_1 (fun h => absurd h (nI_pos (n := q) (by omega))) (fun _ => ?_)
  refine z_iload_n rfl rfl dX7_report_4 ?_
  refine z_aload_n rfl rfl dX7_report_5 ?_
  refine m_getR (7) kf_X7_19 (zl_a rfl rfl) rfl rfl (by decide) dX7_report_6 ?_
  refine m_getI kf_X7_107 (zl_a rfl rfl) rfl dX7_report_9 ?_
  refine m_eqv (w := nI np) (hnp) ?_
  refine z_icmp_lt 25 (by decide) dX7_report_12 (z_br (zcn (n := q) (by omega) (np) (by omega)).2.1 (fun h3 => ?_)) (z_brn (zcn (n := q) (by omega) (np) (by omega)).2.1 (fun h4 => ?_))
  · refine z_iload_n rfl rfl dX7_report_25 ?_
    refine z_callS (as := [.int (nI f)]) (ct_X7_needPoint (j := f) (by omega)) ko_X7_needPoint kl_X7_62 rfl rfl ⟨by decide, by decide, by decide, by decide⟩ (Nat.le_of_ble_eq_true rfl) rfl dX7_report_26 ?_
    refine z_iload_n rfl rfl dX7_report_29 ?_
    refine z_callS (as := [.int (nI t)]) (ct_X7_needPoint (j := t) (by omega)) ko_X7_needPoint kl_X7_62 rfl rfl ⟨by decide, by decide, by decide, by decide⟩ (Nat.le_of_ble_eq_true rfl) rfl dX7_report_30 ?_
    refine z_iload_n rfl rfl dX7_report_33 ?_
    refine z_iload_n rfl rfl dX7_report_34 ?_
    refine z_icmp_ne 48 (by decide) dX7_report_35 (z_brn (zcn (n := f) (by omega) (t) (by omega)).1 (fun h5 => ?_)) (z_br (zcn (n := f) (by omega) (t) (by omega)).1 (fun h6 => ?_))
    · refine z_aload_n rfl rfl dX7_report_48 ?_
      refine m_getR (10) kf_X7_26 (zl_a rfl rfl) rfl rfl (by decide) dX7_report_49 ?_
      refine m_getI kf_X7_84 (zl_a rfl rfl) rfl dX7_report_52 ?_
      refine m_eqv (w := nI nr) (hnr) ?_
      refine z_bipush (nI 60) (by decide) dX7_report_55 ?_
      refine z_icmp_lt 70 (by decide) dX7_report_57 (z_br (zcn (n := nr) (by omega) (60) (by omega)).2.1 (fun h7 => ?_)) (z_brn (zcn (n := nr) (by omega) (60) (by omega)).2.1 (fun h8 => ?_))
      · refine z_aload_n rfl rfl dX7_report_70 ?_
        refine m_getR (2) kf_X7_10 (zl_a rfl rfl) rfl rfl (by decide) dX7_report_71 ?_
        refine m_getR (3) kf_X7_92 (zl_a rfl rfl) rfl rfl (by decide) dX7_report_74 ?_
        refine z_iload_n rfl rfl dX7_report_77 ?_
        refine m_iald (t) (zl_a rfl rfl) rfl (by omega) (by decide) dX7_report_78 ?_
        refine z_aload_n rfl rfl dX7_report_79 ?_
        refine m_getR (2) kf_X7_10 (zl_a rfl rfl) rfl rfl (by decide) dX7_report_80 ?_
        refine m_getR (3) kf_X7_92 (zl_a rfl rfl) rfl rfl (by decide) dX7_report_83 ?_
        refine z_iload_n rfl rfl dX7_report_86 ?_
        refine m_iald (f) (zl_a rfl rfl) rfl (by omega) (by decide) dX7_report_87 ?_
        refine z_isub dX7_report_88 ?_
        refine z_istore (by decide) rfl dX7_report_89 ?_
        refine z_aload_n rfl rfl dX7_report_91 ?_
        refine m_getR (2) kf_X7_10 (zl_a rfl rfl) rfl rfl (by decide) dX7_report_92 ?_
        refine m_getR (4) kf_X7_96 (zl_a rfl rfl) rfl rfl (by decide) dX7_report_95 ?_
        refine z_iload_n rfl rfl dX7_report_98 ?_
        refine m_iald (t) (zl_a rfl rfl) rfl (by omega) (by decide) dX7_report_99 ?_
        refine z_aload_n rfl rfl dX7_report_100 ?_
        refine m_getR (2) kf_X7_10 (zl_a rfl rfl) rfl rfl (by decide) dX7_report_101 ?_
        refine m_getR (4) kf_X7_96 (zl_a rfl rfl) rfl rfl (by decide) dX7_report_104 ?_
        refine z_iload_n rfl rfl dX7_report_107 ?_
        refine m_iald (f) (zl_a rfl rfl) rfl (by omega) (by decide) dX7_report_108 ?_
        refine z_isub dX7_report_109 ?_
        refine z_istore (by decide) rfl dX7_report_110 ?_
        refine z_iload rfl dX7_report_112 ?_
        refine z_iload rfl dX7_report_114 ?_
        refine z_aload_n rfl rfl dX7_report_116 ?_
        refine m_getR (7) kf_X7_19 (zl_a rfl rfl) rfl rfl (by decide) dX7_report_117 ?_
        refine m_getR (8) kf_X7_110 (zl_a rfl rfl) rfl rfl (by decide) dX7_report_120 ?_
        refine z_iload_n rfl rfl dX7_report_123 ?_
        refine m_iald (q) (zl_a rfl rfl) rfl (by omega) (by decide) dX7_report_124 ?_
        refine z_imul dX7_report_125 ?_
        refine z_bipush (nI 100) (by decide) dX7_report_126 ?_
        refine z_idiv (by decide) dX7_report_128 ?_
        refine z_isub dX7_report_129 ?_
        refine z_istore (by decide) rfl dX7_report_130 ?_
        refine z_iload rfl dX7_report_132 ?_
        refine z_iload rfl dX7_report_134 ?_
        refine z_aload_n rfl rfl dX7_report_136 ?_
        refine m_getR (7) kf_X7_19 (zl_a rfl rfl) rfl rfl (by decide) dX7_report_137 ?_
        refine m_getR (8) kf_X7_110 (zl_a rfl rfl) rfl rfl (by decide) dX7_report_140 ?_
        refine z_iload_n rfl rfl dX7_report_143 ?_
        refine m_iald (q) (zl_a rfl rfl) rfl (by omega) (by decide) dX7_report_144 ?_
        refine z_imul dX7_report_145 ?_
        refine z_bipush (nI 100) (by decide) dX7_report_146 ?_
        refine z_idiv (by decide) dX7_report_148 ?_
        refine z_iadd dX7_report_149 ?_
        refine z_istore (by decide) rfl dX7_report_150 ?_
        refine z_aload_n rfl rfl dX7_report_152 ?_
        refine m_getR (10) kf_X7_26 (zl_a rfl rfl) rfl rfl (by decide) dX7_report_153 ?_
        refine m_getI kf_X7_84 (zl_a rfl rfl) rfl dX7_report_156 ?_
        refine m_eqv (w := nI nr) (hnr) ?_
        refine z_istore (by decide) rfl dX7_report_159 ?_
        refine z_aload_n rfl rfl dX7_report_161 ?_
        refine m_getR (10) kf_X7_26 (zl_a rfl rfl) rfl rfl (by decide) dX7_report_162 ?_
        refine m_getR (11) kf_X7_125 (zl_a rfl rfl) rfl rfl (by decide) dX7_report_165 ?_
        refine z_iload rfl dX7_report_168 ?_
        refine z_iload_n rfl rfl dX7_report_170 ?_
        refine m_iast (nr) (zl_a rfl rfl) rfl (by omega) (by decide) dX7_report_171 ?_
        refine z_aload_n rfl rfl dX7_report_172 ?_
        refine m_getR (10) kf_X7_26 (zl_a rfl rfl) rfl rfl (by decide) dX7_report_173 ?_
        refine m_getR (12) kf_X7_128 (zl_a rfl rfl) rfl rfl (by decide) dX7_report_176 ?_
        refine z_iload rfl dX7_report_179 ?_
        refine z_iload_n rfl rfl dX7_report_181 ?_
        refine m_iast (nr) (zl_a rfl rfl) rfl (by omega) (by decide) dX7_report_182 ?_
        refine z_aload_n rfl rfl dX7_report_183 ?_
        refine m_getR (10) kf_X7_26 (zl_a rfl rfl) rfl rfl (by decide) dX7_report_184 ?_
        refine m_getR (13) kf_X7_131 (zl_a rfl rfl) rfl rfl (by decide) dX7_report_187 ?_
        refine z_iload rfl dX7_report_190 ?_
        refine z_iload rfl dX7_report_192 ?_
        refine z_iload rfl dX7_report_194 ?_
        refine z_aload_n rfl rfl dX7_report_196 ?_
        refine m_getR (7) kf_X7_19 (zl_a rfl rfl) rfl rfl (by decide) dX7_report_197 ?_
        refine m_getR (9) kf_X7_113 (zl_a rfl rfl) rfl rfl (by decide) dX7_report_200 ?_
        refine z_iload_n rfl rfl dX7_report_203 ?_
        refine m_iald (q) (zl_a rfl rfl) rfl (by omega) (by decide) dX7_report_204 ?_
        refine z_imul dX7_report_205 ?_
        refine z_bipush (nI 100) (by decide) dX7_report_206 ?_
        refine z_idiv (by decide) dX7_report_208 ?_
        refine z_iadd dX7_report_209 ?_
        refine m_iast (nr) (zl_a rfl rfl) rfl (by omega) (by decide) dX7_report_210 ?_
        refine z_aload_n rfl rfl dX7_report_211 ?_
        refine m_getR (10) kf_X7_26 (zl_a rfl rfl) rfl rfl (by decide) dX7_report_212 ?_
        refine m_getR (14) kf_X7_132 (zl_a rfl rfl) rfl rfl (by decide) dX7_report_215 ?_
        refine z_iload rfl dX7_report_218 ?_
        refine z_iload rfl dX7_report_220 ?_
        refine z_iload rfl dX7_report_222 ?_
        refine z_aload_n rfl rfl dX7_report_224 ?_
        refine m_getR (7) kf_X7_19 (zl_a rfl rfl) rfl rfl (by decide) dX7_report_225 ?_
        refine m_getR (9) kf_X7_113 (zl_a rfl rfl) rfl rfl (by decide) dX7_report_228 ?_
        refine z_iload_n rfl rfl dX7_report_231 ?_
        refine m_iald (q) (zl_a rfl rfl) rfl (by omega) (by decide) dX7_report_232 ?_
        refine z_imul dX7_report_233 ?_
        refine z_bipush (nI 100) (by decide) dX7_report_234 ?_
        refine z_idiv (by decide) dX7_report_236 ?_
        refine z_iadd dX7_report_237 ?_
        refine m_iast (nr) (zl_a rfl rfl) rfl (by omega) (by decide) dX7_report_238 ?_
        refine z_aload_n rfl rfl dX7_report_239 ?_
        refine m_getR (10) kf_X7_26 (zl_a rfl rfl) rfl rfl (by decide) dX7_report_240 ?_
        refine z_iload rfl dX7_report_243 ?_
        refine z_iconst (nI 1) (by decide) dX7_report_245 ?_
        refine m_addN dX7_report_246 ?_
        refine m_putI kf_X7_84 (zl_a rfl rfl) rfl dX7_report_247 ?_
        refine z_iload rfl dX7_report_250 ?_
        exact z_iret ((if_neg (by omega)).trans ((if_neg (by omega)).trans (by simp only [zrx, zry]; rfl))) rfl (znarI _) (by decide) (by decide) dX7_report_252
      · exact z_throw (text := "there are all the reports") ((if_neg (by omega)).trans ((if_pos (by omega)).trans (rfl))) kt_87 (by decide +kernel) rfl (by decide) (Nat.le_of_ble_eq_true rfl) (by decide) (by decide) dX7_report_60 dX7_report_63 dX7_report_64 dX7_report_66 dX7_report_69
    · exact z_throw (text := "both points are the same") ((if_pos (by omega)).trans (rfl)) kt_77 (by decide +kernel) rfl (by decide) (Nat.le_of_ble_eq_true rfl) (by decide) (by decide) dX7_report_38 dX7_report_41 dX7_report_42 dX7_report_44 dX7_report_47
  · omega
set_option maxRecDepth 100000 in
set_option maxHeartbeats 4000000 in
theorem lp1_X7_chart {E : Nat × (Nat → Int32)} {g : zLw} {μ : zMu} {c r : Nat} (hc : c < 12) {y : Int32} {O : zO} (kk : ∀ J : Value, J = .int (nI 24) → zV false E kX7_chart 116 O 97 [.ref 1, .int (nI r), .int y, .int (nI c), .ref (33 + 7 * c), .null] [] (zm (zit (cchp c) 0 24 μ) g) 1 6) : ∀ (n : Nat) (m : Nat) (ν : zMu), 24 - m = n → m ≤ 24 → ν = zit (cchp c) 0 m (μ) → zV false E kX7_chart 116 O 59 [.ref (1), .int (nI r), .int (y), .int (nI c), .ref (33 + 7 * c), .int (nI m)] [] (zm ν g) 1 6 := by
  intro n
  induction n using Nat.strongRecOn with
  | ind n ih =>
    intro m ν hm hle hs 
    refine z_iload rfl dX7_chart_59 ?_
    refine z_bipush (nI 24) (by decide) dX7_chart_61 ?_
    refine z_icmp_ge 97 (by decide) dX7_chart_63 (z_br (zcn (n := 24) (by omega) (m) (by omega)).2.2 (fun h1 => ?_)) (z_brn (zcn (n := 24) (by omega) (m) (by omega)).2.2 (fun h2 => ?_))
    · have hmL : m = 24 := by omega
      have hz : zit (cchp c) 0 24 (μ) = ν := by rw [hs, hmL]
      rw [hz] at kk
      refine z_fgt [.ref (1), .int (nI r), .int (y), .int (nI c), .ref (33 + 7 * c), .null] ⟨Or.inl rfl, ⟨Or.inl rfl, ⟨Or.inl rfl, ⟨Or.inl rfl, ⟨Or.inl rfl, ⟨Or.inr rfl, trivial⟩⟩⟩⟩⟩⟩ ?_
      exact kk _ rfl
    · refine z_aload rfl dX7_chart_66 ?_
      refine z_iload rfl dX7_chart_68 ?_
      refine z_callV (as := [.int (nI m)]) (ct_X0_forget (c := c) (p := m) (by omega) (by omega)) ko_X0_forget kl_X7_140 rfl (zc0 (by omega)) rfl rfl ⟨by decide, by decide, by decide, by decide⟩ (Nat.le_of_ble_eq_true rfl) rfl dX7_chart_70 ?_
      refine z_aload rfl dX7_chart_73 ?_
      refine m_getR (36 + 7 * c) kf_X7_143 (zc0 (by omega)) rfl (zl_rc (by omega)).2.2.1 (by omega) dX7_chart_75 ?_
      refine z_iload rfl dX7_chart_78 ?_
      refine z_aload_n rfl rfl dX7_chart_80 ?_
      refine m_getR (2) kf_X7_10 (zl_a rfl rfl) rfl rfl (by decide) dX7_chart_81 ?_
      refine m_getR (5) kf_X7_99 (zl_a rfl rfl) rfl rfl (by decide) dX7_chart_84 ?_
      refine z_iload rfl dX7_chart_87 ?_
      refine m_iald (m) (zl_a rfl rfl) rfl (by omega) (by decide) dX7_chart_89 ?_
      refine m_iast (m) (zc3 (by omega)) rfl (by omega) (by decide) dX7_chart_90 ?_
      refine z_iinc (nI (m + 1)) rfl (zinc _) (by decide) rfl dX7_chart_91 ?_
      refine z_goto 59 (by decide) dX7_chart_94 ?_
      exact ih (24 - (m + 1)) (by omega) (m + 1) (zu (zput ν c m 100000 100000 (-1)) (36 + 7 * c) (m) ((zput ν c m 100000 100000 (-1)) (5) (m))) rfl (by omega) (zst0 hs (rfl))
