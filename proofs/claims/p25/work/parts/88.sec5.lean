/-! a turn of the law: chart (printed by wip/p25/gen_9.py) -/
set_option maxRecDepth 100000 in
set_option maxHeartbeats 4000000 in
theorem lp_A1 {E : Nat × (Nat → Int32)} (hE : E.1 ≤ 260) {o : zO} {J : Nat → Nat} {μ ν : zMu} {nc nr ni at9 tn kd c r : Nat} (h5 : nc < 5) {z q : Int32} {u us : Nat}  (kk : zV true E kL_law 0 o 760 (.ref (0) :: .ref (1) :: .ref (J 0) :: .ref (J 1) :: .ref (J 2) :: .ref (J 3) :: .ref (J 4) :: .ref (J 5) :: .ref (J 6) :: .ref (J 7) :: .ref (J 8) :: .int (nI at9) :: .ref (J 9) :: .ref (J 10) :: .int (nI nr) :: .int (nI nc) :: .int (nI ni) :: .int (nI tn) :: .int (z) :: .int (q) :: .int (nI kd) :: .int (nI c) :: .int (nI r) :: .null :: .null :: .null :: .null :: .null :: .null :: .null :: .null :: .null :: .null :: []) [] (zm μ (J, 11, (zit (lci nc) 0 10 ν))) u us) : ∀ (n : Nat) (p : Nat), 10 - p = n → p ≤ 10 → zV true E kL_law 0 o 706 (.ref (0) :: .ref (1) :: .ref (J 0) :: .ref (J 1) :: .ref (J 2) :: .ref (J 3) :: .ref (J 4) :: .ref (J 5) :: .ref (J 6) :: .ref (J 7) :: .ref (J 8) :: .int (nI at9) :: .ref (J 9) :: .ref (J 10) :: .int (nI nr) :: .int (nI nc) :: .int (nI ni) :: .int (nI tn) :: .int (z) :: .int (q) :: .int (nI kd) :: .int (nI c) :: .int (nI r) :: .int (nI p) :: .null :: .null :: .null :: .null :: .null :: .null :: .null :: .null :: .null :: []) [] (zm μ (J, 11, (zit (lci nc) 0 p ν))) u us := by
  intro n
  induction n using Nat.strongRecOn with
  | ind n ih =>
    intro p e h10
    refine z_iload rfl dL_law_706 ?_
    refine z_bipush (nI 10) (by decide) dL_law_708 ?_
    refine z_icmp_ge 760 (by decide) dL_law_710 (z_br (zcn (n := 10) (by omega) (p) (by omega)).2.2 (fun h710t => ?_)) (z_brn (zcn (n := 10) (by omega) (p) (by omega)).2.2 (fun h710f => ?_))
    · obtain rfl : p = 10 := by omega
      refine z_fgt (.ref (0) :: .ref (1) :: .ref (J 0) :: .ref (J 1) :: .ref (J 2) :: .ref (J 3) :: .ref (J 4) :: .ref (J 5) :: .ref (J 6) :: .ref (J 7) :: .ref (J 8) :: .int (nI at9) :: .ref (J 9) :: .ref (J 10) :: .int (nI nr) :: .int (nI nc) :: .int (nI ni) :: .int (nI tn) :: .int (z) :: .int (q) :: .int (nI kd) :: .int (nI c) :: .int (nI r) :: .null :: .null :: .null :: .null :: .null :: .null :: .null :: .null :: .null :: .null :: []) ⟨Or.inl rfl, ⟨Or.inl rfl, ⟨Or.inl rfl, ⟨Or.inl rfl, ⟨Or.inl rfl, ⟨Or.inl rfl, ⟨Or.inl rfl, ⟨Or.inl rfl, ⟨Or.inl rfl, ⟨Or.inl rfl, ⟨Or.inl rfl, ⟨Or.inl rfl, ⟨Or.inl rfl, ⟨Or.inl rfl, ⟨Or.inl rfl, ⟨Or.inl rfl, ⟨Or.inl rfl, ⟨Or.inl rfl, ⟨Or.inl rfl, ⟨Or.inl rfl, ⟨Or.inl rfl, ⟨Or.inl rfl, ⟨Or.inl rfl, ⟨Or.inr rfl, ⟨Or.inl rfl, ⟨Or.inl rfl, ⟨Or.inl rfl, ⟨Or.inl rfl, ⟨Or.inl rfl, ⟨Or.inl rfl, ⟨Or.inl rfl, ⟨Or.inl rfl, ⟨Or.inl rfl, trivial⟩⟩⟩⟩⟩⟩⟩⟩⟩⟩⟩⟩⟩⟩⟩⟩⟩⟩⟩⟩⟩⟩⟩⟩⟩⟩⟩⟩⟩⟩⟩⟩⟩ ?_
      exact kk
    · refine z_aload rfl dL_law_713 ?_
      refine z_bipush (nI 10) (by decide) dL_law_715 ?_
      refine z_iload rfl dL_law_717 ?_
      refine m_mulN dL_law_719 ?_
      refine z_iload rfl dL_law_720 ?_
      refine m_addN dL_law_722 ?_
      refine z_iload rfl dL_law_723 ?_
      refine z_if_ne 732 (by decide) dL_law_725 (z_brn (z0e (n := p) (by omega)) (fun h725t => ?_)) (z_br (z0e (n := p) (by omega)) (fun h725f => ?_))
      · refine z_bipush (-2) (by decide) dL_law_732 ?_
        refine m_eqv (w := if p = 0 then -1 else -2) (by rw [if_neg h725t]) ?_
        refine m_xast 3 ((10 * nc) + p) 64 rfl (by decide) rfl (by omega) (by decide) dL_law_734 ?_
        refine z_aload rfl dL_law_735 ?_
        refine z_bipush (nI 10) (by decide) dL_law_737 ?_
        refine z_iload rfl dL_law_739 ?_
        refine m_mulN dL_law_741 ?_
        refine z_iload rfl dL_law_742 ?_
        refine m_addN dL_law_744 ?_
        refine z_aload rfl dL_law_745 ?_
        refine z_bipush (nI 20) (by decide) dL_law_747 ?_
        refine z_iload rfl dL_law_749 ?_
        refine m_addN dL_law_751 ?_
        refine m_xald 4 (20 + p) 64 rfl (by decide) rfl (by omega) (by decide) dL_law_752 ?_
        refine m_xast 2 ((10 * nc) + p) 64 rfl (by decide) rfl (by omega) (by decide) dL_law_753 ?_
        refine z_iinc (nI (p + 1)) rfl (zincN _ 1) (by decide) rfl dL_law_754 ?_
        refine z_goto 706 (by decide) dL_law_757 ?_
        show zV true E kL_law 0 o 706 (.ref (0) :: .ref (1) :: .ref (J 0) :: .ref (J 1) :: .ref (J 2) :: .ref (J 3) :: .ref (J 4) :: .ref (J 5) :: .ref (J 6) :: .ref (J 7) :: .ref (J 8) :: .int (nI at9) :: .ref (J 9) :: .ref (J 10) :: .int (nI nr) :: .int (nI nc) :: .int (nI ni) :: .int (nI tn) :: .int (z) :: .int (q) :: .int (nI kd) :: .int (nI c) :: .int (nI r) :: .int (nI (p + 1)) :: .null :: .null :: .null :: .null :: .null :: .null :: .null :: .null :: .null :: []) [] (zm μ (J, 11, (lci nc p (zit (lci nc) 0 p ν)))) u us
        rw [← lci_n]
        exact ih (10 - (p + 1)) (by omega) (p + 1) rfl (by omega)
      · refine z_iconst (-1) (by decide) dL_law_728 ?_
        refine z_goto 734 (by decide) dL_law_729 ?_
        refine m_eqv (w := if p = 0 then -1 else -2) (by rw [if_pos h725f]) ?_
        refine m_xast 3 ((10 * nc) + p) 64 rfl (by decide) rfl (by omega) (by decide) dL_law_734 ?_
        refine z_aload rfl dL_law_735 ?_
        refine z_bipush (nI 10) (by decide) dL_law_737 ?_
        refine z_iload rfl dL_law_739 ?_
        refine m_mulN dL_law_741 ?_
        refine z_iload rfl dL_law_742 ?_
        refine m_addN dL_law_744 ?_
        refine z_aload rfl dL_law_745 ?_
        refine z_bipush (nI 20) (by decide) dL_law_747 ?_
        refine z_iload rfl dL_law_749 ?_
        refine m_addN dL_law_751 ?_
        refine m_xald 4 (20 + p) 64 rfl (by decide) rfl (by omega) (by decide) dL_law_752 ?_
        refine m_xast 2 ((10 * nc) + p) 64 rfl (by decide) rfl (by omega) (by decide) dL_law_753 ?_
        refine z_iinc (nI (p + 1)) rfl (zincN _ 1) (by decide) rfl dL_law_754 ?_
        refine z_goto 706 (by decide) dL_law_757 ?_
        show zV true E kL_law 0 o 706 (.ref (0) :: .ref (1) :: .ref (J 0) :: .ref (J 1) :: .ref (J 2) :: .ref (J 3) :: .ref (J 4) :: .ref (J 5) :: .ref (J 6) :: .ref (J 7) :: .ref (J 8) :: .int (nI at9) :: .ref (J 9) :: .ref (J 10) :: .int (nI nr) :: .int (nI nc) :: .int (nI ni) :: .int (nI tn) :: .int (z) :: .int (q) :: .int (nI kd) :: .int (nI c) :: .int (nI r) :: .int (nI (p + 1)) :: .null :: .null :: .null :: .null :: .null :: .null :: .null :: .null :: .null :: []) [] (zm μ (J, 11, (lci nc p (zit (lci nc) 0 p ν)))) u us
        rw [← lci_n]
        exact ih (10 - (p + 1)) (by omega) (p + 1) rfl (by omega)
set_option maxRecDepth 100000 in
set_option maxHeartbeats 4000000 in
theorem lp_K {E : Nat × (Nat → Int32)} (hE : E.1 ≤ 260) {o : zO} {J : Nat → Nat} {μ V1 : zMu} {nc nr ni at9 tn kd c r : Nat} {rf rt : Nat → Nat} (h5 : nc < 5) (hr : r ≤ 13) (hL9 : ∀ k, k < r → V1 9 (4 * k) = nI (rf k) ∧ V1 9 (4 * k + 1) = nI (rt k) ∧ rf k < 10 ∧ rt k < 10) {z q : Int32} {u us : Nat}  (kk : zV true E kL_law 0 o 1007 (.ref (0) :: .ref (1) :: .ref (J 0) :: .ref (J 1) :: .ref (J 2) :: .ref (J 3) :: .ref (J 4) :: .ref (J 5) :: .ref (J 6) :: .ref (J 7) :: .ref (J 8) :: .int (nI at9) :: .ref (J 9) :: .ref (J 10) :: .int (nI nr) :: .int (nI nc) :: .int (nI ni) :: .int (nI tn) :: .int (z) :: .int (q) :: .int (nI kd) :: .int (nI c) :: .int (nI r) :: .int (nI 0) :: .ref (J 11) :: .null :: .null :: .null :: .null :: .null :: .null :: .null :: .null :: []) [] (zm μ (J, 12, (zit (lgr nc rf rt) 0 r V1))) u us) : ∀ (n : Nat) (k : Nat), r - k = n → k ≤ r → zV true E kL_law 0 o 811 (.ref (0) :: .ref (1) :: .ref (J 0) :: .ref (J 1) :: .ref (J 2) :: .ref (J 3) :: .ref (J 4) :: .ref (J 5) :: .ref (J 6) :: .ref (J 7) :: .ref (J 8) :: .int (nI at9) :: .ref (J 9) :: .ref (J 10) :: .int (nI nr) :: .int (nI nc) :: .int (nI ni) :: .int (nI tn) :: .int (z) :: .int (q) :: .int (nI kd) :: .int (nI c) :: .int (nI r) :: .int (nI 0) :: .ref (J 11) :: .int (nI k) :: .null :: .null :: .null :: .null :: .null :: .null :: .null :: []) [] (zm μ (J, 12, (zit (lgr nc rf rt) 0 k V1))) u us := by
  intro n
  induction n using Nat.strongRecOn with
  | ind n ih =>
    intro k e hk
    refine z_iload rfl dL_law_811 ?_
    refine z_iload rfl dL_law_813 ?_
    refine z_icmp_ge 1007 (by decide) dL_law_815 (z_br (zcn (n := r) (by omega) (k) (by omega)).2.2 (fun h815t => ?_)) (z_brn (zcn (n := r) (by omega) (k) (by omega)).2.2 (fun h815f => ?_))
    · obtain rfl : r = k := by omega
      refine z_fgt (.ref (0) :: .ref (1) :: .ref (J 0) :: .ref (J 1) :: .ref (J 2) :: .ref (J 3) :: .ref (J 4) :: .ref (J 5) :: .ref (J 6) :: .ref (J 7) :: .ref (J 8) :: .int (nI at9) :: .ref (J 9) :: .ref (J 10) :: .int (nI nr) :: .int (nI nc) :: .int (nI ni) :: .int (nI tn) :: .int (z) :: .int (q) :: .int (nI kd) :: .int (nI c) :: .int (nI r) :: .int (nI 0) :: .ref (J 11) :: .null :: .null :: .null :: .null :: .null :: .null :: .null :: .null :: []) ⟨Or.inl rfl, ⟨Or.inl rfl, ⟨Or.inl rfl, ⟨Or.inl rfl, ⟨Or.inl rfl, ⟨Or.inl rfl, ⟨Or.inl rfl, ⟨Or.inl rfl, ⟨Or.inl rfl, ⟨Or.inl rfl, ⟨Or.inl rfl, ⟨Or.inl rfl, ⟨Or.inl rfl, ⟨Or.inl rfl, ⟨Or.inl rfl, ⟨Or.inl rfl, ⟨Or.inl rfl, ⟨Or.inl rfl, ⟨Or.inl rfl, ⟨Or.inl rfl, ⟨Or.inl rfl, ⟨Or.inl rfl, ⟨Or.inl rfl, ⟨Or.inl rfl, ⟨Or.inl rfl, ⟨Or.inr rfl, ⟨Or.inl rfl, ⟨Or.inl rfl, ⟨Or.inl rfl, ⟨Or.inl rfl, ⟨Or.inl rfl, ⟨Or.inl rfl, ⟨Or.inl rfl, trivial⟩⟩⟩⟩⟩⟩⟩⟩⟩⟩⟩⟩⟩⟩⟩⟩⟩⟩⟩⟩⟩⟩⟩⟩⟩⟩⟩⟩⟩⟩⟩⟩⟩ ?_
      exact kk
    · obtain ⟨hka, hkb, hkc, hkd⟩ := hL9 k (by omega)
      obtain ⟨V0, hV0⟩ : ∃ V, V = zit (lgr nc rf rt) 0 k V1 := ⟨_, rfl⟩
      rw [← hV0]
      have v9 : V0 9 = V1 9 := by rw [hV0]; exact lgr_k (by decide) k
      rw [← v9] at hka hkb
      refine z_iconst (nI 0) (by decide) dL_law_818 ?_
      refine z_istore (by decide) rfl dL_law_819 ?_
      refine z_iload rfl dL_law_821 ?_
      refine z_iconst (nI 2) (by decide) dL_law_823 ?_
      refine z_icmp_ge 1001 (by decide) dL_law_824 (fun h => absurd h (by decide)) (fun _ => ?_)
      refine z_aload rfl dL_law_827 ?_
      refine z_iconst (nI 4) (by decide) dL_law_829 ?_
      refine z_iload rfl dL_law_830 ?_
      refine m_mulN dL_law_832 ?_
      refine z_iload rfl dL_law_833 ?_
      refine m_addN dL_law_835 ?_
      refine m_xald 9 ((4 * k) + 0) 64 rfl (by decide) rfl (by omega) (by decide) dL_law_836 ?_
      refine m_eqv (w := nI (rf k)) hka ?_
      refine z_istore (by decide) rfl dL_law_837 ?_
      refine z_aload rfl dL_law_839 ?_
      refine z_iconst (nI 4) (by decide) dL_law_841 ?_
      refine z_iload rfl dL_law_842 ?_
      refine m_mulN dL_law_844 ?_
      refine z_iconst (nI 1) (by decide) dL_law_845 ?_
      refine m_addN dL_law_846 ?_
      refine z_iload rfl dL_law_847 ?_
      refine m_subN (by omega) dL_law_849 ?_
      refine m_xald 9 (((4 * k) + 1) - 0) 64 rfl (by decide) rfl (by omega) (by decide) dL_law_850 ?_
      refine m_eqv (w := nI (rt k)) hkb ?_
      refine z_istore (by decide) rfl dL_law_851 ?_
      have sec : zV true E kL_law 0 o 995 (.ref (0) :: .ref (1) :: .ref (J 0) :: .ref (J 1) :: .ref (J 2) :: .ref (J 3) :: .ref (J 4) :: .ref (J 5) :: .ref (J 6) :: .ref (J 7) :: .ref (J 8) :: .int (nI at9) :: .ref (J 9) :: .ref (J 10) :: .int (nI nr) :: .int (nI nc) :: .int (nI ni) :: .int (nI tn) :: .int (z) :: .int (q) :: .int (nI kd) :: .int (nI c) :: .int (nI r) :: .int (nI 0) :: .ref (J 11) :: .int (nI k) :: .int (nI 0) :: .int (nI (rf k)) :: .int (nI (rt k)) :: .null :: .null :: .null :: .null :: []) [] (zm μ (J, 12, (lgf nc (rf k) (rt k) ((V0 9 ((4 * k) + 2))) ((V0 9 ((4 * k) + 3))) V0))) u us := by
        obtain ⟨Y1, hY1⟩ : ∃ Y, Y = lgf nc (rf k) (rt k) ((V0 9 ((4 * k) + 2))) ((V0 9 ((4 * k) + 3))) V0 := ⟨_, rfl⟩
        rw [← hY1]
        have y9 : Y1 9 = V0 9 := by rw [hY1]; exact lgf_o (by decide)
        refine z_iinc (nI 1) rfl (zincN _ 1) (by decide) rfl dL_law_995 ?_
        refine z_goto 821 (by decide) dL_law_998 ?_
        refine z_iload rfl dL_law_821 ?_
        refine z_iconst (nI 2) (by decide) dL_law_823 ?_
        refine z_icmp_ge 1001 (by decide) dL_law_824 (fun h => absurd h (by decide)) (fun _ => ?_)
        refine z_aload rfl dL_law_827 ?_
        refine z_iconst (nI 4) (by decide) dL_law_829 ?_
        refine z_iload rfl dL_law_830 ?_
        refine m_mulN dL_law_832 ?_
        refine z_iload rfl dL_law_833 ?_
        refine m_addN dL_law_835 ?_
        refine m_xald 9 ((4 * k) + 1) 64 rfl (by decide) rfl (by omega) (by decide) dL_law_836 ?_
        refine m_eqv (w := nI (rt k)) (by rw [y9]; exact hkb) ?_
        refine z_istore (by decide) rfl dL_law_837 ?_
        refine z_aload rfl dL_law_839 ?_
        refine z_iconst (nI 4) (by decide) dL_law_841 ?_
        refine z_iload rfl dL_law_842 ?_
        refine m_mulN dL_law_844 ?_
        refine z_iconst (nI 1) (by decide) dL_law_845 ?_
        refine m_addN dL_law_846 ?_
        refine z_iload rfl dL_law_847 ?_
        refine m_subN (by omega) dL_law_849 ?_
        refine m_xald 9 (((4 * k) + 1) - 1) 64 rfl (by decide) rfl (by omega) (by decide) dL_law_850 ?_
        refine m_eqv (w := nI (rf k)) (by rw [y9]; exact hka) ?_
        refine z_istore (by decide) rfl dL_law_851 ?_
        refine z_aload rfl dL_law_853 ?_
        refine z_bipush (nI 10) (by decide) dL_law_855 ?_
        refine z_iload rfl dL_law_857 ?_
        refine m_mulN dL_law_859 ?_
        refine z_iload rfl dL_law_860 ?_
        refine m_addN dL_law_862 ?_
        refine m_xald 3 ((10 * nc) + (rt k)) 64 rfl (by decide) rfl (by omega) (by decide) dL_law_863 ?_
        refine z_bipush (-2) (by decide) dL_law_864 ?_
        refine z_icmp_eq 995 (by decide) dL_law_866 (fun h866t => ?_) (fun h866f => ?_)
        · rw [show Y1 = lgf nc (rt k) (rf k) (-(V0 9 ((4 * k) + 2))) (-(V0 9 ((4 * k) + 3))) Y1 from (if_pos (Or.inl h866t)).symm]
          refine z_iinc (nI 2) rfl (zincN _ 1) (by decide) rfl dL_law_995 ?_
          refine z_goto 821 (by decide) dL_law_998 ?_
          refine z_iload rfl dL_law_821 ?_
          refine z_iconst (nI 2) (by decide) dL_law_823 ?_
          refine z_icmp_ge 1001 (by decide) dL_law_824 (fun _ => ?_) (fun h => absurd h (by decide))
          refine z_iinc (nI (k + 1)) rfl (zincN _ 1) (by decide) rfl dL_law_1001 ?_
          refine z_goto 811 (by decide) dL_law_1004 ?_
          subst hY1
          subst hV0
          show zV true E kL_law 0 o 811 (.ref (0) :: .ref (1) :: .ref (J 0) :: .ref (J 1) :: .ref (J 2) :: .ref (J 3) :: .ref (J 4) :: .ref (J 5) :: .ref (J 6) :: .ref (J 7) :: .ref (J 8) :: .int (nI at9) :: .ref (J 9) :: .ref (J 10) :: .int (nI nr) :: .int (nI nc) :: .int (nI ni) :: .int (nI tn) :: .int (z) :: .int (q) :: .int (nI kd) :: .int (nI c) :: .int (nI r) :: .int (nI 0) :: .ref (J 11) :: .int (nI (k + 1)) :: .int (nI 2) :: .int (nI (rt k)) :: .int (nI (rf k)) :: .null :: .null :: .null :: .null :: []) [] (zm μ (J, 12, (lgr nc rf rt k (zit (lgr nc rf rt) 0 k V1)))) u us
          rw [← lgr_n]
          refine z_fgt (.ref (0) :: .ref (1) :: .ref (J 0) :: .ref (J 1) :: .ref (J 2) :: .ref (J 3) :: .ref (J 4) :: .ref (J 5) :: .ref (J 6) :: .ref (J 7) :: .ref (J 8) :: .int (nI at9) :: .ref (J 9) :: .ref (J 10) :: .int (nI nr) :: .int (nI nc) :: .int (nI ni) :: .int (nI tn) :: .int (z) :: .int (q) :: .int (nI kd) :: .int (nI c) :: .int (nI r) :: .int (nI 0) :: .ref (J 11) :: .int (nI (k + 1)) :: .null :: .null :: .null :: .null :: .null :: .null :: .null :: []) ⟨Or.inl rfl, ⟨Or.inl rfl, ⟨Or.inl rfl, ⟨Or.inl rfl, ⟨Or.inl rfl, ⟨Or.inl rfl, ⟨Or.inl rfl, ⟨Or.inl rfl, ⟨Or.inl rfl, ⟨Or.inl rfl, ⟨Or.inl rfl, ⟨Or.inl rfl, ⟨Or.inl rfl, ⟨Or.inl rfl, ⟨Or.inl rfl, ⟨Or.inl rfl, ⟨Or.inl rfl, ⟨Or.inl rfl, ⟨Or.inl rfl, ⟨Or.inl rfl, ⟨Or.inl rfl, ⟨Or.inl rfl, ⟨Or.inl rfl, ⟨Or.inl rfl, ⟨Or.inl rfl, ⟨Or.inl rfl, ⟨Or.inr rfl, ⟨Or.inr rfl, ⟨Or.inr rfl, ⟨Or.inl rfl, ⟨Or.inl rfl, ⟨Or.inl rfl, ⟨Or.inl rfl, trivial⟩⟩⟩⟩⟩⟩⟩⟩⟩⟩⟩⟩⟩⟩⟩⟩⟩⟩⟩⟩⟩⟩⟩⟩⟩⟩⟩⟩⟩⟩⟩⟩⟩ ?_
          exact ih (r - (k + 1)) (by omega) (k + 1) rfl (by omega)
        · refine z_aload rfl dL_law_869 ?_
          refine z_bipush (nI 10) (by decide) dL_law_871 ?_
          refine z_iload rfl dL_law_873 ?_
          refine m_mulN dL_law_875 ?_
          refine z_iload rfl dL_law_876 ?_
          refine m_addN dL_law_878 ?_
          refine m_xald 3 ((10 * nc) + (rf k)) 64 rfl (by decide) rfl (by omega) (by decide) dL_law_879 ?_
          refine z_bipush (-2) (by decide) dL_law_880 ?_
          refine z_icmp_le 888 (by decide) dL_law_882 (fun h882t => ?_) (fun h882f => ?_)
          · refine z_aload rfl dL_law_888 ?_
            refine z_iload rfl dL_law_890 ?_
            refine z_dup2 rfl rfl dL_law_892 ?_
            refine m_xald 11 (rf k) 32 rfl (by decide) rfl (by omega) (by decide) dL_law_893 ?_
            refine z_aload_n rfl rfl dL_law_894 ?_
            refine z_bipush (nI 10) (by decide) dL_law_895 ?_
            refine z_iload rfl dL_law_897 ?_
            refine m_mulN dL_law_899 ?_
            refine z_iload rfl dL_law_900 ?_
            refine m_addN dL_law_902 ?_
            refine m_xald 0 ((10 * nc) + (rt k)) 64 rfl (by decide) rfl (by omega) (by decide) dL_law_903 ?_
            refine z_iload rfl dL_law_904 ?_
            refine z_if_ne 921 (by decide) dL_law_906 (fun _ => ?_) (fun h => absurd h (by decide))
            refine z_aload rfl dL_law_921 ?_
            refine z_iconst (nI 4) (by decide) dL_law_923 ?_
            refine z_iload rfl dL_law_924 ?_
            refine m_mulN dL_law_926 ?_
            refine z_iconst (nI 2) (by decide) dL_law_927 ?_
            refine m_addN dL_law_928 ?_
            refine m_xald 9 ((4 * k) + 2) 64 rfl (by decide) rfl (by omega) (by decide) dL_law_929 ?_
            refine m_eqv (w := V0 9 ((4 * k) + 2)) (by rw [y9]) ?_
            refine z_ineg dL_law_930 ?_
            refine z_iadd dL_law_931 ?_
            refine z_iadd dL_law_932 ?_
            refine m_xast 11 (rf k) 32 rfl (by decide) rfl (by omega) (by decide) dL_law_933 ?_
            show zV true E kL_law 0 o 934 (.ref (0) :: .ref (1) :: .ref (J 0) :: .ref (J 1) :: .ref (J 2) :: .ref (J 3) :: .ref (J 4) :: .ref (J 5) :: .ref (J 6) :: .ref (J 7) :: .ref (J 8) :: .int (nI at9) :: .ref (J 9) :: .ref (J 10) :: .int (nI nr) :: .int (nI nc) :: .int (nI ni) :: .int (nI tn) :: .int (z) :: .int (q) :: .int (nI kd) :: .int (nI c) :: .int (nI r) :: .int (nI 0) :: .ref (J 11) :: .int (nI k) :: .int (nI 1) :: .int (nI (rt k)) :: .int (nI (rf k)) :: .null :: .null :: .null :: .null :: []) [] (zm μ (J, 12, (lga nc (rt k) (rf k) (-(V0 9 ((4 * k) + 2))) Y1))) u us
            refine z_aload rfl dL_law_934 ?_
            refine z_bipush (nI 10) (by decide) dL_law_936 ?_
            refine z_iload rfl dL_law_938 ?_
            refine m_addN dL_law_940 ?_
            refine z_dup2 rfl rfl dL_law_941 ?_
            refine m_xald 11 (10 + (rf k)) 32 rfl (by decide) rfl (by omega) (by decide) dL_law_942 ?_
            refine z_aload_n rfl rfl dL_law_943 ?_
            refine z_bipush (nI 10) (by decide) dL_law_944 ?_
            refine z_iload rfl dL_law_946 ?_
            refine m_mulN dL_law_948 ?_
            refine z_iload rfl dL_law_949 ?_
            refine m_addN dL_law_951 ?_
            refine m_xald 1 ((10 * nc) + (rt k)) 64 rfl (by decide) rfl (by omega) (by decide) dL_law_952 ?_
            refine z_iload rfl dL_law_953 ?_
            refine z_if_ne 970 (by decide) dL_law_955 (fun _ => ?_) (fun h => absurd h (by decide))
            refine z_aload rfl dL_law_970 ?_
            refine z_iconst (nI 4) (by decide) dL_law_972 ?_
            refine z_iload rfl dL_law_973 ?_
            refine m_mulN dL_law_975 ?_
            refine z_iconst (nI 3) (by decide) dL_law_976 ?_
            refine m_addN dL_law_977 ?_
            refine m_xald 9 ((4 * k) + 3) 64 rfl (by decide) rfl (by omega) (by decide) dL_law_978 ?_
            refine m_eqv (w := V0 9 ((4 * k) + 3)) (by unfold lga; rw [zu_o (by decide), y9]) ?_
            refine z_ineg dL_law_979 ?_
            refine z_iadd dL_law_980 ?_
            refine z_iadd dL_law_981 ?_
            refine m_xast 11 (10 + (rf k)) 32 rfl (by decide) rfl (by omega) (by decide) dL_law_982 ?_
            show zV true E kL_law 0 o 983 (.ref (0) :: .ref (1) :: .ref (J 0) :: .ref (J 1) :: .ref (J 2) :: .ref (J 3) :: .ref (J 4) :: .ref (J 5) :: .ref (J 6) :: .ref (J 7) :: .ref (J 8) :: .int (nI at9) :: .ref (J 9) :: .ref (J 10) :: .int (nI nr) :: .int (nI nc) :: .int (nI ni) :: .int (nI tn) :: .int (z) :: .int (q) :: .int (nI kd) :: .int (nI c) :: .int (nI r) :: .int (nI 0) :: .ref (J 11) :: .int (nI k) :: .int (nI 1) :: .int (nI (rt k)) :: .int (nI (rf k)) :: .null :: .null :: .null :: .null :: []) [] (zm μ (J, 12, (lgb nc (rt k) (rf k) (-(V0 9 ((4 * k) + 3))) (lga nc (rt k) (rf k) (-(V0 9 ((4 * k) + 2))) Y1)))) u us
            refine z_aload rfl dL_law_983 ?_
            refine z_bipush (nI 20) (by decide) dL_law_985 ?_
            refine z_iload rfl dL_law_987 ?_
            refine m_addN dL_law_989 ?_
            refine z_dup2 rfl rfl dL_law_990 ?_
            refine m_xald 11 (20 + (rf k)) 32 rfl (by decide) rfl (by omega) (by decide) dL_law_991 ?_
            refine z_iconst (nI 1) (by decide) dL_law_992 ?_
            refine z_iadd dL_law_993 ?_
            refine m_xast 11 (20 + (rf k)) 32 rfl (by decide) rfl (by omega) (by decide) dL_law_994 ?_
            show zV true E kL_law 0 o 995 (.ref (0) :: .ref (1) :: .ref (J 0) :: .ref (J 1) :: .ref (J 2) :: .ref (J 3) :: .ref (J 4) :: .ref (J 5) :: .ref (J 6) :: .ref (J 7) :: .ref (J 8) :: .int (nI at9) :: .ref (J 9) :: .ref (J 10) :: .int (nI nr) :: .int (nI nc) :: .int (nI ni) :: .int (nI tn) :: .int (z) :: .int (q) :: .int (nI kd) :: .int (nI c) :: .int (nI r) :: .int (nI 0) :: .ref (J 11) :: .int (nI k) :: .int (nI 1) :: .int (nI (rt k)) :: .int (nI (rf k)) :: .null :: .null :: .null :: .null :: []) [] (zm μ (J, 12, (lgc (rf k) (lgb nc (rt k) (rf k) (-(V0 9 ((4 * k) + 3))) (lga nc (rt k) (rf k) (-(V0 9 ((4 * k) + 2))) Y1))))) u us
            rw [show lgc (rf k) (lgb nc (rt k) (rf k) (-(V0 9 ((4 * k) + 3))) (lga nc (rt k) (rf k) (-(V0 9 ((4 * k) + 2))) Y1)) = lgf nc (rt k) (rf k) (-(V0 9 ((4 * k) + 2))) (-(V0 9 ((4 * k) + 3))) Y1 from (if_neg (fun w => w.elim h866f (fun y => y h882t))).symm]
            refine z_iinc (nI 2) rfl (zincN _ 1) (by decide) rfl dL_law_995 ?_
            refine z_goto 821 (by decide) dL_law_998 ?_
            refine z_iload rfl dL_law_821 ?_
            refine z_iconst (nI 2) (by decide) dL_law_823 ?_
            refine z_icmp_ge 1001 (by decide) dL_law_824 (fun _ => ?_) (fun h => absurd h (by decide))
            refine z_iinc (nI (k + 1)) rfl (zincN _ 1) (by decide) rfl dL_law_1001 ?_
            refine z_goto 811 (by decide) dL_law_1004 ?_
            subst hY1
            subst hV0
            show zV true E kL_law 0 o 811 (.ref (0) :: .ref (1) :: .ref (J 0) :: .ref (J 1) :: .ref (J 2) :: .ref (J 3) :: .ref (J 4) :: .ref (J 5) :: .ref (J 6) :: .ref (J 7) :: .ref (J 8) :: .int (nI at9) :: .ref (J 9) :: .ref (J 10) :: .int (nI nr) :: .int (nI nc) :: .int (nI ni) :: .int (nI tn) :: .int (z) :: .int (q) :: .int (nI kd) :: .int (nI c) :: .int (nI r) :: .int (nI 0) :: .ref (J 11) :: .int (nI (k + 1)) :: .int (nI 2) :: .int (nI (rt k)) :: .int (nI (rf k)) :: .null :: .null :: .null :: .null :: []) [] (zm μ (J, 12, (lgr nc rf rt k (zit (lgr nc rf rt) 0 k V1)))) u us
            rw [← lgr_n]
            refine z_fgt (.ref (0) :: .ref (1) :: .ref (J 0) :: .ref (J 1) :: .ref (J 2) :: .ref (J 3) :: .ref (J 4) :: .ref (J 5) :: .ref (J 6) :: .ref (J 7) :: .ref (J 8) :: .int (nI at9) :: .ref (J 9) :: .ref (J 10) :: .int (nI nr) :: .int (nI nc) :: .int (nI ni) :: .int (nI tn) :: .int (z) :: .int (q) :: .int (nI kd) :: .int (nI c) :: .int (nI r) :: .int (nI 0) :: .ref (J 11) :: .int (nI (k + 1)) :: .null :: .null :: .null :: .null :: .null :: .null :: .null :: []) ⟨Or.inl rfl, ⟨Or.inl rfl, ⟨Or.inl rfl, ⟨Or.inl rfl, ⟨Or.inl rfl, ⟨Or.inl rfl, ⟨Or.inl rfl, ⟨Or.inl rfl, ⟨Or.inl rfl, ⟨Or.inl rfl, ⟨Or.inl rfl, ⟨Or.inl rfl, ⟨Or.inl rfl, ⟨Or.inl rfl, ⟨Or.inl rfl, ⟨Or.inl rfl, ⟨Or.inl rfl, ⟨Or.inl rfl, ⟨Or.inl rfl, ⟨Or.inl rfl, ⟨Or.inl rfl, ⟨Or.inl rfl, ⟨Or.inl rfl, ⟨Or.inl rfl, ⟨Or.inl rfl, ⟨Or.inl rfl, ⟨Or.inr rfl, ⟨Or.inr rfl, ⟨Or.inr rfl, ⟨Or.inl rfl, ⟨Or.inl rfl, ⟨Or.inl rfl, ⟨Or.inl rfl, trivial⟩⟩⟩⟩⟩⟩⟩⟩⟩⟩⟩⟩⟩⟩⟩⟩⟩⟩⟩⟩⟩⟩⟩⟩⟩⟩⟩⟩⟩⟩⟩⟩⟩ ?_
            exact ih (r - (k + 1)) (by omega) (k + 1) rfl (by omega)
          · refine z_goto 995 (by decide) dL_law_885 ?_
            rw [show Y1 = lgf nc (rt k) (rf k) (-(V0 9 ((4 * k) + 2))) (-(V0 9 ((4 * k) + 3))) Y1 from (if_pos (Or.inr h882f)).symm]
            refine z_iinc (nI 2) rfl (zincN _ 1) (by decide) rfl dL_law_995 ?_
            refine z_goto 821 (by decide) dL_law_998 ?_
            refine z_iload rfl dL_law_821 ?_
            refine z_iconst (nI 2) (by decide) dL_law_823 ?_
            refine z_icmp_ge 1001 (by decide) dL_law_824 (fun _ => ?_) (fun h => absurd h (by decide))
            refine z_iinc (nI (k + 1)) rfl (zincN _ 1) (by decide) rfl dL_law_1001 ?_
            refine z_goto 811 (by decide) dL_law_1004 ?_
            subst hY1
            subst hV0
            show zV true E kL_law 0 o 811 (.ref (0) :: .ref (1) :: .ref (J 0) :: .ref (J 1) :: .ref (J 2) :: .ref (J 3) :: .ref (J 4) :: .ref (J 5) :: .ref (J 6) :: .ref (J 7) :: .ref (J 8) :: .int (nI at9) :: .ref (J 9) :: .ref (J 10) :: .int (nI nr) :: .int (nI nc) :: .int (nI ni) :: .int (nI tn) :: .int (z) :: .int (q) :: .int (nI kd) :: .int (nI c) :: .int (nI r) :: .int (nI 0) :: .ref (J 11) :: .int (nI (k + 1)) :: .int (nI 2) :: .int (nI (rt k)) :: .int (nI (rf k)) :: .null :: .null :: .null :: .null :: []) [] (zm μ (J, 12, (lgr nc rf rt k (zit (lgr nc rf rt) 0 k V1)))) u us
            rw [← lgr_n]
            refine z_fgt (.ref (0) :: .ref (1) :: .ref (J 0) :: .ref (J 1) :: .ref (J 2) :: .ref (J 3) :: .ref (J 4) :: .ref (J 5) :: .ref (J 6) :: .ref (J 7) :: .ref (J 8) :: .int (nI at9) :: .ref (J 9) :: .ref (J 10) :: .int (nI nr) :: .int (nI nc) :: .int (nI ni) :: .int (nI tn) :: .int (z) :: .int (q) :: .int (nI kd) :: .int (nI c) :: .int (nI r) :: .int (nI 0) :: .ref (J 11) :: .int (nI (k + 1)) :: .null :: .null :: .null :: .null :: .null :: .null :: .null :: []) ⟨Or.inl rfl, ⟨Or.inl rfl, ⟨Or.inl rfl, ⟨Or.inl rfl, ⟨Or.inl rfl, ⟨Or.inl rfl, ⟨Or.inl rfl, ⟨Or.inl rfl, ⟨Or.inl rfl, ⟨Or.inl rfl, ⟨Or.inl rfl, ⟨Or.inl rfl, ⟨Or.inl rfl, ⟨Or.inl rfl, ⟨Or.inl rfl, ⟨Or.inl rfl, ⟨Or.inl rfl, ⟨Or.inl rfl, ⟨Or.inl rfl, ⟨Or.inl rfl, ⟨Or.inl rfl, ⟨Or.inl rfl, ⟨Or.inl rfl, ⟨Or.inl rfl, ⟨Or.inl rfl, ⟨Or.inl rfl, ⟨Or.inr rfl, ⟨Or.inr rfl, ⟨Or.inr rfl, ⟨Or.inl rfl, ⟨Or.inl rfl, ⟨Or.inl rfl, ⟨Or.inl rfl, trivial⟩⟩⟩⟩⟩⟩⟩⟩⟩⟩⟩⟩⟩⟩⟩⟩⟩⟩⟩⟩⟩⟩⟩⟩⟩⟩⟩⟩⟩⟩⟩⟩⟩ ?_
            exact ih (r - (k + 1)) (by omega) (k + 1) rfl (by omega)
      refine z_aload rfl dL_law_853 ?_
      refine z_bipush (nI 10) (by decide) dL_law_855 ?_
      refine z_iload rfl dL_law_857 ?_
      refine m_mulN dL_law_859 ?_
      refine z_iload rfl dL_law_860 ?_
      refine m_addN dL_law_862 ?_
      refine m_xald 3 ((10 * nc) + (rf k)) 64 rfl (by decide) rfl (by omega) (by decide) dL_law_863 ?_
      refine z_bipush (-2) (by decide) dL_law_864 ?_
      refine z_icmp_eq 995 (by decide) dL_law_866 (fun h866t => ?_) (fun h866f => ?_)
      · rw [show V0 = lgf nc (rf k) (rt k) ((V0 9 ((4 * k) + 2))) ((V0 9 ((4 * k) + 3))) V0 from (if_pos (Or.inl h866t)).symm]
        exact sec
      · refine z_aload rfl dL_law_869 ?_
        refine z_bipush (nI 10) (by decide) dL_law_871 ?_
        refine z_iload rfl dL_law_873 ?_
        refine m_mulN dL_law_875 ?_
        refine z_iload rfl dL_law_876 ?_
        refine m_addN dL_law_878 ?_
        refine m_xald 3 ((10 * nc) + (rt k)) 64 rfl (by decide) rfl (by omega) (by decide) dL_law_879 ?_
        refine z_bipush (-2) (by decide) dL_law_880 ?_
        refine z_icmp_le 888 (by decide) dL_law_882 (fun h882t => ?_) (fun h882f => ?_)
        · refine z_aload rfl dL_law_888 ?_
          refine z_iload rfl dL_law_890 ?_
          refine z_dup2 rfl rfl dL_law_892 ?_
          refine m_xald 11 (rt k) 32 rfl (by decide) rfl (by omega) (by decide) dL_law_893 ?_
          refine z_aload_n rfl rfl dL_law_894 ?_
          refine z_bipush (nI 10) (by decide) dL_law_895 ?_
          refine z_iload rfl dL_law_897 ?_
          refine m_mulN dL_law_899 ?_
          refine z_iload rfl dL_law_900 ?_
          refine m_addN dL_law_902 ?_
          refine m_xald 0 ((10 * nc) + (rf k)) 64 rfl (by decide) rfl (by omega) (by decide) dL_law_903 ?_
          refine z_iload rfl dL_law_904 ?_
          refine z_if_ne 921 (by decide) dL_law_906 (fun h => absurd h (by decide)) (fun _ => ?_)
          refine z_aload rfl dL_law_909 ?_
          refine z_iconst (nI 4) (by decide) dL_law_911 ?_
          refine z_iload rfl dL_law_912 ?_
          refine m_mulN dL_law_914 ?_
          refine z_iconst (nI 2) (by decide) dL_law_915 ?_
          refine m_addN dL_law_916 ?_
          refine m_xald 9 ((4 * k) + 2) 64 rfl (by decide) rfl (by omega) (by decide) dL_law_917 ?_
          refine z_goto 931 (by decide) dL_law_918 ?_
          refine z_iadd dL_law_931 ?_
          refine z_iadd dL_law_932 ?_
          refine m_xast 11 (rt k) 32 rfl (by decide) rfl (by omega) (by decide) dL_law_933 ?_
          show zV true E kL_law 0 o 934 (.ref (0) :: .ref (1) :: .ref (J 0) :: .ref (J 1) :: .ref (J 2) :: .ref (J 3) :: .ref (J 4) :: .ref (J 5) :: .ref (J 6) :: .ref (J 7) :: .ref (J 8) :: .int (nI at9) :: .ref (J 9) :: .ref (J 10) :: .int (nI nr) :: .int (nI nc) :: .int (nI ni) :: .int (nI tn) :: .int (z) :: .int (q) :: .int (nI kd) :: .int (nI c) :: .int (nI r) :: .int (nI 0) :: .ref (J 11) :: .int (nI k) :: .int (nI 0) :: .int (nI (rf k)) :: .int (nI (rt k)) :: .null :: .null :: .null :: .null :: []) [] (zm μ (J, 12, (lga nc (rf k) (rt k) ((V0 9 ((4 * k) + 2))) V0))) u us
          refine z_aload rfl dL_law_934 ?_
          refine z_bipush (nI 10) (by decide) dL_law_936 ?_
          refine z_iload rfl dL_law_938 ?_
          refine m_addN dL_law_940 ?_
          refine z_dup2 rfl rfl dL_law_941 ?_
          refine m_xald 11 (10 + (rt k)) 32 rfl (by decide) rfl (by omega) (by decide) dL_law_942 ?_
          refine z_aload_n rfl rfl dL_law_943 ?_
          refine z_bipush (nI 10) (by decide) dL_law_944 ?_
          refine z_iload rfl dL_law_946 ?_
          refine m_mulN dL_law_948 ?_
          refine z_iload rfl dL_law_949 ?_
          refine m_addN dL_law_951 ?_
          refine m_xald 1 ((10 * nc) + (rf k)) 64 rfl (by decide) rfl (by omega) (by decide) dL_law_952 ?_
          refine z_iload rfl dL_law_953 ?_
          refine z_if_ne 970 (by decide) dL_law_955 (fun h => absurd h (by decide)) (fun _ => ?_)
          refine z_aload rfl dL_law_958 ?_
          refine z_iconst (nI 4) (by decide) dL_law_960 ?_
          refine z_iload rfl dL_law_961 ?_
          refine m_mulN dL_law_963 ?_
          refine z_iconst (nI 3) (by decide) dL_law_964 ?_
          refine m_addN dL_law_965 ?_
          refine m_xald 9 ((4 * k) + 3) 64 rfl (by decide) rfl (by omega) (by decide) dL_law_966 ?_
          refine m_eqv (w := V0 9 ((4 * k) + 3)) (by unfold lga; rw [zu_o (by decide)]) ?_
          refine z_goto 980 (by decide) dL_law_967 ?_
          refine z_iadd dL_law_980 ?_
          refine z_iadd dL_law_981 ?_
          refine m_xast 11 (10 + (rt k)) 32 rfl (by decide) rfl (by omega) (by decide) dL_law_982 ?_
          show zV true E kL_law 0 o 983 (.ref (0) :: .ref (1) :: .ref (J 0) :: .ref (J 1) :: .ref (J 2) :: .ref (J 3) :: .ref (J 4) :: .ref (J 5) :: .ref (J 6) :: .ref (J 7) :: .ref (J 8) :: .int (nI at9) :: .ref (J 9) :: .ref (J 10) :: .int (nI nr) :: .int (nI nc) :: .int (nI ni) :: .int (nI tn) :: .int (z) :: .int (q) :: .int (nI kd) :: .int (nI c) :: .int (nI r) :: .int (nI 0) :: .ref (J 11) :: .int (nI k) :: .int (nI 0) :: .int (nI (rf k)) :: .int (nI (rt k)) :: .null :: .null :: .null :: .null :: []) [] (zm μ (J, 12, (lgb nc (rf k) (rt k) ((V0 9 ((4 * k) + 3))) (lga nc (rf k) (rt k) ((V0 9 ((4 * k) + 2))) V0)))) u us
          refine z_aload rfl dL_law_983 ?_
          refine z_bipush (nI 20) (by decide) dL_law_985 ?_
          refine z_iload rfl dL_law_987 ?_
          refine m_addN dL_law_989 ?_
          refine z_dup2 rfl rfl dL_law_990 ?_
          refine m_xald 11 (20 + (rt k)) 32 rfl (by decide) rfl (by omega) (by decide) dL_law_991 ?_
          refine z_iconst (nI 1) (by decide) dL_law_992 ?_
          refine z_iadd dL_law_993 ?_
          refine m_xast 11 (20 + (rt k)) 32 rfl (by decide) rfl (by omega) (by decide) dL_law_994 ?_
          show zV true E kL_law 0 o 995 (.ref (0) :: .ref (1) :: .ref (J 0) :: .ref (J 1) :: .ref (J 2) :: .ref (J 3) :: .ref (J 4) :: .ref (J 5) :: .ref (J 6) :: .ref (J 7) :: .ref (J 8) :: .int (nI at9) :: .ref (J 9) :: .ref (J 10) :: .int (nI nr) :: .int (nI nc) :: .int (nI ni) :: .int (nI tn) :: .int (z) :: .int (q) :: .int (nI kd) :: .int (nI c) :: .int (nI r) :: .int (nI 0) :: .ref (J 11) :: .int (nI k) :: .int (nI 0) :: .int (nI (rf k)) :: .int (nI (rt k)) :: .null :: .null :: .null :: .null :: []) [] (zm μ (J, 12, (lgc (rt k) (lgb nc (rf k) (rt k) ((V0 9 ((4 * k) + 3))) (lga nc (rf k) (rt k) ((V0 9 ((4 * k) + 2))) V0))))) u us
          rw [show lgc (rt k) (lgb nc (rf k) (rt k) ((V0 9 ((4 * k) + 3))) (lga nc (rf k) (rt k) ((V0 9 ((4 * k) + 2))) V0)) = lgf nc (rf k) (rt k) ((V0 9 ((4 * k) + 2))) ((V0 9 ((4 * k) + 3))) V0 from (if_neg (fun w => w.elim h866f (fun y => y h882t))).symm]
          exact sec
        · refine z_goto 995 (by decide) dL_law_885 ?_
          rw [show V0 = lgf nc (rf k) (rt k) ((V0 9 ((4 * k) + 2))) ((V0 9 ((4 * k) + 3))) V0 from (if_pos (Or.inr h882f)).symm]
          exact sec
set_option maxRecDepth 100000 in
set_option maxHeartbeats 4000000 in
theorem lp_S {E : Nat × (Nat → Int32)} (hE : E.1 ≤ 260) {o : zO} {J : Nat → Nat} {μ V2 : zMu} {nc nr ni at9 tn kd c r : Nat} (h5 : nc < 5) {z q : Int32} {u us : Nat}  (kk : ∀ g, sB g (¬ ∀ i, i < 10 → V2 11 (20 + i) = 0) → zV true E kL_law 0 o 1103 (.ref (0) :: .ref (1) :: .ref (J 0) :: .ref (J 1) :: .ref (J 2) :: .ref (J 3) :: .ref (J 4) :: .ref (J 5) :: .ref (J 6) :: .ref (J 7) :: .ref (J 8) :: .int (nI at9) :: .ref (J 9) :: .ref (J 10) :: .int (nI nr) :: .int (nI nc) :: .int (nI ni) :: .int (nI tn) :: .int (z) :: .int (q) :: .int (nI kd) :: .int (nI c) :: .int (nI r) :: .int (nI g) :: .ref (J 11) :: .null :: .null :: .null :: .null :: .null :: .null :: .null :: .null :: []) [] (zm μ (J, 12, (zit (lset nc) 0 10 V2))) u us) : ∀ (n : Nat) (p g : Nat), 10 - p = n → p ≤ 10 → sB g (¬ ∀ i, i < p → V2 11 (20 + i) = 0) → zV true E kL_law 0 o 1010 (.ref (0) :: .ref (1) :: .ref (J 0) :: .ref (J 1) :: .ref (J 2) :: .ref (J 3) :: .ref (J 4) :: .ref (J 5) :: .ref (J 6) :: .ref (J 7) :: .ref (J 8) :: .int (nI at9) :: .ref (J 9) :: .ref (J 10) :: .int (nI nr) :: .int (nI nc) :: .int (nI ni) :: .int (nI tn) :: .int (z) :: .int (q) :: .int (nI kd) :: .int (nI c) :: .int (nI r) :: .int (nI g) :: .ref (J 11) :: .int (nI p) :: .null :: .null :: .null :: .null :: .null :: .null :: .null :: []) [] (zm μ (J, 12, (zit (lset nc) 0 p V2))) u us := by
  intro n
  induction n using Nat.strongRecOn with
  | ind n ih =>
    intro p g e h10 hg
    refine z_iload rfl dL_law_1010 ?_
    refine z_bipush (nI 10) (by decide) dL_law_1012 ?_
    refine z_icmp_ge 1103 (by decide) dL_law_1014 (z_br (zcn (n := 10) (by omega) (p) (by omega)).2.2 (fun h1014t => ?_)) (z_brn (zcn (n := 10) (by omega) (p) (by omega)).2.2 (fun h1014f => ?_))
    · obtain rfl : p = 10 := by omega
      refine z_fgt (.ref (0) :: .ref (1) :: .ref (J 0) :: .ref (J 1) :: .ref (J 2) :: .ref (J 3) :: .ref (J 4) :: .ref (J 5) :: .ref (J 6) :: .ref (J 7) :: .ref (J 8) :: .int (nI at9) :: .ref (J 9) :: .ref (J 10) :: .int (nI nr) :: .int (nI nc) :: .int (nI ni) :: .int (nI tn) :: .int (z) :: .int (q) :: .int (nI kd) :: .int (nI c) :: .int (nI r) :: .int (nI g) :: .ref (J 11) :: .null :: .null :: .null :: .null :: .null :: .null :: .null :: .null :: []) ⟨Or.inl rfl, ⟨Or.inl rfl, ⟨Or.inl rfl, ⟨Or.inl rfl, ⟨Or.inl rfl, ⟨Or.inl rfl, ⟨Or.inl rfl, ⟨Or.inl rfl, ⟨Or.inl rfl, ⟨Or.inl rfl, ⟨Or.inl rfl, ⟨Or.inl rfl, ⟨Or.inl rfl, ⟨Or.inl rfl, ⟨Or.inl rfl, ⟨Or.inl rfl, ⟨Or.inl rfl, ⟨Or.inl rfl, ⟨Or.inl rfl, ⟨Or.inl rfl, ⟨Or.inl rfl, ⟨Or.inl rfl, ⟨Or.inl rfl, ⟨Or.inl rfl, ⟨Or.inl rfl, ⟨Or.inr rfl, ⟨Or.inl rfl, ⟨Or.inl rfl, ⟨Or.inl rfl, ⟨Or.inl rfl, ⟨Or.inl rfl, ⟨Or.inl rfl, ⟨Or.inl rfl, trivial⟩⟩⟩⟩⟩⟩⟩⟩⟩⟩⟩⟩⟩⟩⟩⟩⟩⟩⟩⟩⟩⟩⟩⟩⟩⟩⟩⟩⟩⟩⟩⟩⟩ ?_
      exact kk g hg
    · obtain ⟨V0, hV0⟩ : ∃ V, V = zit (lset nc) 0 p V2 := ⟨_, rfl⟩
      rw [← hV0]
      have v11 : V0 11 = V2 11 := funext fun j => by rw [hV0]; exact (lset_f V2 p).2 11 j (by omega)
      refine z_aload rfl dL_law_1017 ?_
      refine z_bipush (nI 20) (by decide) dL_law_1019 ?_
      refine z_iload rfl dL_law_1021 ?_
      refine m_addN dL_law_1023 ?_
      refine m_xald 11 (20 + p) 32 rfl (by decide) rfl (by omega) (by decide) dL_law_1024 ?_
      refine z_if_ne 1031 (by decide) dL_law_1025 (fun h1025t => ?_) (fun h1025f => ?_)
      · refine z_aload_n rfl rfl dL_law_1031 ?_
        refine z_bipush (nI 10) (by decide) dL_law_1032 ?_
        refine z_iload rfl dL_law_1034 ?_
        refine m_mulN dL_law_1036 ?_
        refine z_iload rfl dL_law_1037 ?_
        refine m_addN dL_law_1039 ?_
        refine z_aload rfl dL_law_1040 ?_
        refine z_iload rfl dL_law_1042 ?_
        refine m_xald 11 (p) 32 rfl (by decide) rfl (by omega) (by decide) dL_law_1044 ?_
        refine z_aload rfl dL_law_1045 ?_
        refine z_bipush (nI 20) (by decide) dL_law_1047 ?_
        refine z_iload rfl dL_law_1049 ?_
        refine m_addN dL_law_1051 ?_
        refine m_xald 11 (20 + p) 32 rfl (by decide) rfl (by omega) (by decide) dL_law_1052 ?_
        refine z_idiv h1025t dL_law_1053 ?_
        refine m_xast 0 ((10 * nc) + p) 64 rfl (by decide) rfl (by omega) (by decide) dL_law_1054 ?_
        show zV true E kL_law 0 o 1055 (.ref (0) :: .ref (1) :: .ref (J 0) :: .ref (J 1) :: .ref (J 2) :: .ref (J 3) :: .ref (J 4) :: .ref (J 5) :: .ref (J 6) :: .ref (J 7) :: .ref (J 8) :: .int (nI at9) :: .ref (J 9) :: .ref (J 10) :: .int (nI nr) :: .int (nI nc) :: .int (nI ni) :: .int (nI tn) :: .int (z) :: .int (q) :: .int (nI kd) :: .int (nI c) :: .int (nI r) :: .int (nI g) :: .ref (J 11) :: .int (nI p) :: .null :: .null :: .null :: .null :: .null :: .null :: .null :: []) [] (zm μ (J, 12, (lsa nc p V0))) u us
        refine z_aload_n rfl rfl dL_law_1055 ?_
        refine z_bipush (nI 10) (by decide) dL_law_1056 ?_
        refine z_iload rfl dL_law_1058 ?_
        refine m_mulN dL_law_1060 ?_
        refine z_iload rfl dL_law_1061 ?_
        refine m_addN dL_law_1063 ?_
        refine z_aload rfl dL_law_1064 ?_
        refine z_bipush (nI 10) (by decide) dL_law_1066 ?_
        refine z_iload rfl dL_law_1068 ?_
        refine m_addN dL_law_1070 ?_
        refine m_xald 11 (10 + p) 32 rfl (by decide) rfl (by omega) (by decide) dL_law_1071 ?_
        refine z_aload rfl dL_law_1072 ?_
        refine z_bipush (nI 20) (by decide) dL_law_1074 ?_
        refine z_iload rfl dL_law_1076 ?_
        refine m_addN dL_law_1078 ?_
        refine m_xald 11 (20 + p) 32 rfl (by decide) rfl (by omega) (by decide) dL_law_1079 ?_
        refine z_idiv (by unfold lsa; rw [zu_o (by decide)]; exact h1025t) dL_law_1080 ?_
        refine m_xast 1 ((10 * nc) + p) 64 rfl (by decide) rfl (by omega) (by decide) dL_law_1081 ?_
        show zV true E kL_law 0 o 1082 (.ref (0) :: .ref (1) :: .ref (J 0) :: .ref (J 1) :: .ref (J 2) :: .ref (J 3) :: .ref (J 4) :: .ref (J 5) :: .ref (J 6) :: .ref (J 7) :: .ref (J 8) :: .int (nI at9) :: .ref (J 9) :: .ref (J 10) :: .int (nI nr) :: .int (nI nc) :: .int (nI ni) :: .int (nI tn) :: .int (z) :: .int (q) :: .int (nI kd) :: .int (nI c) :: .int (nI r) :: .int (nI g) :: .ref (J 11) :: .int (nI p) :: .null :: .null :: .null :: .null :: .null :: .null :: .null :: []) [] (zm μ (J, 12, (lsb nc p (lsa nc p V0)))) u us
        refine z_aload rfl dL_law_1082 ?_
        refine z_bipush (nI 10) (by decide) dL_law_1084 ?_
        refine z_iload rfl dL_law_1086 ?_
        refine m_mulN dL_law_1088 ?_
        refine z_iload rfl dL_law_1089 ?_
        refine m_addN dL_law_1091 ?_
        refine z_iconst (-1) (by decide) dL_law_1092 ?_
        refine m_xast 3 ((10 * nc) + p) 64 rfl (by decide) rfl (by omega) (by decide) dL_law_1093 ?_
        show zV true E kL_law 0 o 1094 (.ref (0) :: .ref (1) :: .ref (J 0) :: .ref (J 1) :: .ref (J 2) :: .ref (J 3) :: .ref (J 4) :: .ref (J 5) :: .ref (J 6) :: .ref (J 7) :: .ref (J 8) :: .int (nI at9) :: .ref (J 9) :: .ref (J 10) :: .int (nI nr) :: .int (nI nc) :: .int (nI ni) :: .int (nI tn) :: .int (z) :: .int (q) :: .int (nI kd) :: .int (nI c) :: .int (nI r) :: .int (nI g) :: .ref (J 11) :: .int (nI p) :: .null :: .null :: .null :: .null :: .null :: .null :: .null :: []) [] (zm μ (J, 12, (lsc nc p (lsb nc p (lsa nc p V0))))) u us
        refine z_iconst (nI 1) (by decide) dL_law_1094 ?_
        refine z_istore (by decide) rfl dL_law_1095 ?_
        refine z_iinc (nI (p + 1)) rfl (zincN _ 1) (by decide) rfl dL_law_1097 ?_
        refine z_goto 1010 (by decide) dL_law_1100 ?_
        have hg2 : sB 1 (¬ ∀ i, i < p + 1 → V2 11 (20 + i) = 0) := Or.inl ⟨rfl, fun w => h1025t (by rw [v11]; exact w p (by omega))⟩
        rw [show lsc nc p (lsb nc p (lsa nc p V0)) = lset nc p V0 from (if_neg h1025t).symm]
        subst hV0
        rw [← lset_n]
        exact ih (10 - (p + 1)) (by omega) (p + 1) 1 rfl (by omega) hg2
      · refine z_goto 1097 (by decide) dL_law_1028 ?_
        refine z_iinc (nI (p + 1)) rfl (zincN _ 1) (by decide) rfl dL_law_1097 ?_
        refine z_goto 1010 (by decide) dL_law_1100 ?_
        have hg2 : sB g (¬ ∀ i, i < p + 1 → V2 11 (20 + i) = 0) := sB_c ⟨fun w y => w (all_s.mp y).1, fun w y => w (all_s.mpr ⟨y, by rw [← v11]; exact h1025f⟩)⟩ hg
        rw [show V0 = lset nc p V0 from (if_pos h1025f).symm]
        subst hV0
        rw [← lset_n]
        exact ih (10 - (p + 1)) (by omega) (p + 1) g rfl (by omega) hg2
set_option maxRecDepth 100000 in
set_option maxHeartbeats 4000000 in
theorem lp_H {E : Nat × (Nat → Int32)} (hE : E.1 ≤ 260) {o : zO} {J0 : Nat → Nat} {μ μ0 W σ0 : zMu} {nc nr ni at9 tn kd c r : Nat} {rf rt : Nat → Nat} (h5 : nc < 5) (hr : r ≤ 13) (hLr : ∀ k, k < r → (rf k < 10 ∧ rt k < 10) ∧ (σ0 13 k = W 9 (4 * k + 2) ∧ σ0 14 k = W 9 (4 * k + 3)) ∧ rb 1690 (σ0 13 k) ∧ rb 1690 (σ0 14 k)) (hW9 : ∀ k, k < r → W 9 (4 * k) = nI (rf k) ∧ W 9 (4 * k + 1) = nI (rt k)) {z q : Int32} {U : Nat} (hU : U ≤ 70100) (kk : ∀ (i : Nat) (V σ : zMu) (u us : Nat), CH μ0 W nr rf rt nc r σ0 i 0 V σ → u ≤ U + 10 → us ≤ 64 * u → zV true E kL_law 0 o 1106 (.ref (0) :: .ref (1) :: .ref (J0 0) :: .ref (J0 1) :: .ref (J0 2) :: .ref (J0 3) :: .ref (J0 4) :: .ref (J0 5) :: .ref (J0 6) :: .ref (J0 7) :: .ref (J0 8) :: .int (nI at9) :: .ref (J0 9) :: .ref (J0 10) :: .int (nI nr) :: .int (nI nc) :: .int (nI ni) :: .int (nI tn) :: .int (z) :: .int (q) :: .int (nI kd) :: .int (nI c) :: .int (nI r) :: .null :: .null :: .null :: .null :: .null :: .null :: .null :: .null :: .null :: .null :: []) [] (zm μ (J0, 11, V)) u us) : ∀ (n : Nat) (i g : Nat) (V σ : zMu) (u us : Nat), 11 - i = n → CH μ0 W nr rf rt nc r σ0 i g V σ → (g = 0 ∨ g = 1) → u ≤ U + i → us ≤ 64 * u → zV true E kL_law 0 o 794 (.ref (0) :: .ref (1) :: .ref (J0 0) :: .ref (J0 1) :: .ref (J0 2) :: .ref (J0 3) :: .ref (J0 4) :: .ref (J0 5) :: .ref (J0 6) :: .ref (J0 7) :: .ref (J0 8) :: .int (nI at9) :: .ref (J0 9) :: .ref (J0 10) :: .int (nI nr) :: .int (nI nc) :: .int (nI ni) :: .int (nI tn) :: .int (z) :: .int (q) :: .int (nI kd) :: .int (nI c) :: .int (nI r) :: .int (nI g) :: .null :: .null :: .null :: .null :: .null :: .null :: .null :: .null :: .null :: []) [] (zm μ (J0, 11, V)) u us := by
  intro n
  induction n using Nat.strongRecOn with
  | ind n ih =>
    intro i g V σ u us e hC hg hu hus
    have hi := hC.2.2.2.1
    rcases hg with rfl | rfl
    · refine z_iload rfl dL_law_794 ?_
      refine z_if_eq 1106 (by decide) dL_law_796 (fun _ => ?_) (fun h => absurd h (by decide))
      refine z_fgt (.ref (0) :: .ref (1) :: .ref (J0 0) :: .ref (J0 1) :: .ref (J0 2) :: .ref (J0 3) :: .ref (J0 4) :: .ref (J0 5) :: .ref (J0 6) :: .ref (J0 7) :: .ref (J0 8) :: .int (nI at9) :: .ref (J0 9) :: .ref (J0 10) :: .int (nI nr) :: .int (nI nc) :: .int (nI ni) :: .int (nI tn) :: .int (z) :: .int (q) :: .int (nI kd) :: .int (nI c) :: .int (nI r) :: .null :: .null :: .null :: .null :: .null :: .null :: .null :: .null :: .null :: .null :: []) ⟨Or.inl rfl, ⟨Or.inl rfl, ⟨Or.inl rfl, ⟨Or.inl rfl, ⟨Or.inl rfl, ⟨Or.inl rfl, ⟨Or.inl rfl, ⟨Or.inl rfl, ⟨Or.inl rfl, ⟨Or.inl rfl, ⟨Or.inl rfl, ⟨Or.inl rfl, ⟨Or.inl rfl, ⟨Or.inl rfl, ⟨Or.inl rfl, ⟨Or.inl rfl, ⟨Or.inl rfl, ⟨Or.inl rfl, ⟨Or.inl rfl, ⟨Or.inl rfl, ⟨Or.inl rfl, ⟨Or.inl rfl, ⟨Or.inl rfl, ⟨Or.inr rfl, ⟨Or.inl rfl, ⟨Or.inl rfl, ⟨Or.inl rfl, ⟨Or.inl rfl, ⟨Or.inl rfl, ⟨Or.inl rfl, ⟨Or.inl rfl, ⟨Or.inl rfl, ⟨Or.inl rfl, trivial⟩⟩⟩⟩⟩⟩⟩⟩⟩⟩⟩⟩⟩⟩⟩⟩⟩⟩⟩⟩⟩⟩⟩⟩⟩⟩⟩⟩⟩⟩⟩⟩⟩ ?_
      exact kk i V σ u us hC (by omega) hus
    · have hi9 : i ≤ 9 := by have := hC.2.2.1 rfl; omega
      refine z_iload rfl dL_law_794 ?_
      refine z_if_eq 1106 (by decide) dL_law_796 (fun h => absurd h (by decide)) (fun _ => ?_)
      refine z_bipush (nI 32) (by decide) dL_law_799 ?_
      refine m_xnew 32 rfl (by decide) (by show u + 1 ≤ 600086; omega) (by show us + 32 ≤ 7301442; omega) dL_law_801 (fun J V1 h1 g1 z1 => ?_)
      refine z_astore (by decide) rfl dL_law_803 ?_
      refine z_iconst (nI 0) (by decide) dL_law_805 ?_
      refine z_istore (by decide) rfl dL_law_806 ?_
      refine z_iconst (nI 0) (by decide) dL_law_808 ?_
      refine z_istore (by decide) rfl dL_law_809 ?_
      have e0 : J0 0 = J 0 := (h1 0 (by decide)).symm
      have e1 : J0 1 = J 1 := (h1 1 (by decide)).symm
      have e2 : J0 2 = J 2 := (h1 2 (by decide)).symm
      have e3 : J0 3 = J 3 := (h1 3 (by decide)).symm
      have e4 : J0 4 = J 4 := (h1 4 (by decide)).symm
      have e5 : J0 5 = J 5 := (h1 5 (by decide)).symm
      have e6 : J0 6 = J 6 := (h1 6 (by decide)).symm
      have e7 : J0 7 = J 7 := (h1 7 (by decide)).symm
      have e8 : J0 8 = J 8 := (h1 8 (by decide)).symm
      have e9 : J0 9 = J 9 := (h1 9 (by decide)).symm
      have e10 : J0 10 = J 10 := (h1 10 (by decide)).symm
      show zV true E kL_law 0 o 811 (.ref (0) :: .ref (1) :: .ref (J0 0) :: .ref (J0 1) :: .ref (J0 2) :: .ref (J0 3) :: .ref (J0 4) :: .ref (J0 5) :: .ref (J0 6) :: .ref (J0 7) :: .ref (J0 8) :: .int (nI at9) :: .ref (J0 9) :: .ref (J0 10) :: .int (nI nr) :: .int (nI nc) :: .int (nI ni) :: .int (nI tn) :: .int (z) :: .int (q) :: .int (nI kd) :: .int (nI c) :: .int (nI r) :: .int (nI 0) :: .ref (J 11) :: .int (nI 0) :: .null :: .null :: .null :: .null :: .null :: .null :: .null :: []) [] (zm μ (J, 12, V1)) (u + 1) (us + 32)
      refine z_lseq (ls1 := (.ref (0) :: .ref (1) :: .ref (J 0) :: .ref (J 1) :: .ref (J 2) :: .ref (J 3) :: .ref (J 4) :: .ref (J 5) :: .ref (J 6) :: .ref (J 7) :: .ref (J 8) :: .int (nI at9) :: .ref (J 9) :: .ref (J 10) :: .int (nI nr) :: .int (nI nc) :: .int (nI ni) :: .int (nI tn) :: .int (z) :: .int (q) :: .int (nI kd) :: .int (nI c) :: .int (nI r) :: .int (nI 0) :: .ref (J 11) :: .int (nI 0) :: .null :: .null :: .null :: .null :: .null :: .null :: .null :: [])) (by rw [e0, e1, e2, e3, e4, e5, e6, e7, e8, e9, e10]) ?_
      have hV9 : V1 9 = W 9 := (g1 9 (by decide)).trans (funext fun j => hC.2.2.2.2.2.1 9 j (by omega) (by decide))
      refine lp_K hE (V1 := V1) (r := r) (rf := rf) (rt := rt) (z := z) (q := q) h5 hr (fun k hk => by rw [hV9]; exact ⟨(hW9 k hk).1, (hW9 k hk).2, (hLr k hk).1.1, (hLr k hk).1.2⟩) ?_ _ 0 rfl (by omega)
      refine z_iconst (nI 0) (by decide) dL_law_1007 ?_
      refine z_istore (by decide) rfl dL_law_1008 ?_
      refine lp_S hE (V2 := zit (lgr nc rf rt) 0 r V1) (r := r) (z := z) (q := q) h5 (fun g hg => ?_) _ 0 0 rfl (by omega) (Or.inr ⟨rfl, fun w => w (fun p hp => absurd hp (Nat.not_lt_zero p))⟩)
      refine z_goto 794 (by decide) dL_law_1103 ?_
      refine z_fgt (.ref (0) :: .ref (1) :: .ref (J 0) :: .ref (J 1) :: .ref (J 2) :: .ref (J 3) :: .ref (J 4) :: .ref (J 5) :: .ref (J 6) :: .ref (J 7) :: .ref (J 8) :: .int (nI at9) :: .ref (J 9) :: .ref (J 10) :: .int (nI nr) :: .int (nI nc) :: .int (nI ni) :: .int (nI tn) :: .int (z) :: .int (q) :: .int (nI kd) :: .int (nI c) :: .int (nI r) :: .int (nI g) :: .null :: .null :: .null :: .null :: .null :: .null :: .null :: .null :: .null :: []) ⟨Or.inl rfl, ⟨Or.inl rfl, ⟨Or.inl rfl, ⟨Or.inl rfl, ⟨Or.inl rfl, ⟨Or.inl rfl, ⟨Or.inl rfl, ⟨Or.inl rfl, ⟨Or.inl rfl, ⟨Or.inl rfl, ⟨Or.inl rfl, ⟨Or.inl rfl, ⟨Or.inl rfl, ⟨Or.inl rfl, ⟨Or.inl rfl, ⟨Or.inl rfl, ⟨Or.inl rfl, ⟨Or.inl rfl, ⟨Or.inl rfl, ⟨Or.inl rfl, ⟨Or.inl rfl, ⟨Or.inl rfl, ⟨Or.inl rfl, ⟨Or.inl rfl, ⟨Or.inr rfl, ⟨Or.inl rfl, ⟨Or.inl rfl, ⟨Or.inl rfl, ⟨Or.inl rfl, ⟨Or.inl rfl, ⟨Or.inl rfl, ⟨Or.inl rfl, ⟨Or.inl rfl, trivial⟩⟩⟩⟩⟩⟩⟩⟩⟩⟩⟩⟩⟩⟩⟩⟩⟩⟩⟩⟩⟩⟩⟩⟩⟩⟩⟩⟩⟩⟩⟩⟩⟩ ?_
      refine m_xdrop (J' := J0) (ν' := zit (lset nc) 0 10 (zit (lgr nc rf rt) 0 r V1)) (m' := 11) (by decide) (fun a ha => (h1 a ha).symm) (fun a _ => rfl) ?_
      refine z_lseq (ls1 := (.ref (0) :: .ref (1) :: .ref (J0 0) :: .ref (J0 1) :: .ref (J0 2) :: .ref (J0 3) :: .ref (J0 4) :: .ref (J0 5) :: .ref (J0 6) :: .ref (J0 7) :: .ref (J0 8) :: .int (nI at9) :: .ref (J0 9) :: .ref (J0 10) :: .int (nI nr) :: .int (nI nc) :: .int (nI ni) :: .int (nI tn) :: .int (z) :: .int (q) :: .int (nI kd) :: .int (nI c) :: .int (nI r) :: .int (nI g) :: .null :: .null :: .null :: .null :: .null :: .null :: .null :: .null :: .null :: [])) (by rw [e0, e1, e2, e3, e4, e5, e6, e7, e8, e9, e10]) ?_
      have hst := ch_step (g2 := g) (r := r) (by omega) hi9 hC g1 z1 h5 hLr hg
      exact ih (11 - (i + 1)) (by omega) (i + 1) g _ _ (u + 1) (us + 32) rfl hst (hg.elim (fun y => Or.inr y.1) (fun y => Or.inl y.1)) (by omega) (by omega)
set_option maxRecDepth 100000 in
set_option maxHeartbeats 4000000 in
theorem sc_chart {E : Nat × (Nat → Int32)} (hE : E.1 ≤ 260) {o : zO} {J : Nat → Nat} {μ ν : zMu} {nc nr ni : Nat} {rf rt : Nat → Nat} (hI : iv μ ν nc nr ni rf rt) {at9 tn kd c : Nat} {z q : Int32} {u us : Nat} (hu : u ≤ 70000) (hus : us ≤ 64 * u) (kk : ∀ (μ2 ν2 : zMu) (nc2 ni2 u2 us2 : Nat), iv μ2 ν2 nc2 nr ni2 rf rt → u2 ≤ u + 200 → us2 ≤ 64 * u2 → zV true E kL_law 0 o 2482 (.ref (0) :: .ref (1) :: .ref (J 0) :: .ref (J 1) :: .ref (J 2) :: .ref (J 3) :: .ref (J 4) :: .ref (J 5) :: .ref (J 6) :: .ref (J 7) :: .ref (J 8) :: .int (nI at9) :: .ref (J 9) :: .ref (J 10) :: .int (nI nr) :: .int (nI nc2) :: .int (nI ni2) :: .int (nI tn) :: .null :: .null :: .null :: .null :: .null :: .null :: .null :: .null :: .null :: .null :: .null :: .null :: .null :: .null :: .null :: []) [] (zm μ2 (J, 11, ν2)) u2 us2) (h5 : nc < 5) : zV true E kL_law 0 o 676 (.ref (0) :: .ref (1) :: .ref (J 0) :: .ref (J 1) :: .ref (J 2) :: .ref (J 3) :: .ref (J 4) :: .ref (J 5) :: .ref (J 6) :: .ref (J 7) :: .ref (J 8) :: .int (nI at9) :: .ref (J 9) :: .ref (J 10) :: .int (nI nr) :: .int (nI nc) :: .int (nI ni) :: .int (nI tn) :: .int (z) :: .int (q) :: .int (nI kd) :: .int (nI c) :: .null :: .null :: .null :: .null :: .null :: .null :: .null :: .null :: .null :: .null :: .null :: []) [] (zm μ (J, 11, ν)) u us := by
  obtain ⟨⟨⟨hnc, hn5⟩, ⟨hnr, h6, h13⟩, ⟨hni, hn4⟩⟩, hT, hL, hY, hB, hK, hA⟩ := id hI
  have hn12 : nc ≤ 12 := by omega
  refine z_iconst (nI 1) (by decide) dL_law_676 ?_
  refine z_iload rfl dL_law_677 ?_
  refine z_iload rfl dL_law_679 ?_
  obtain ⟨k681, hk681, hl681⟩ := ct_L_low (E := E) (μ := μ) (J := J) (m := 11) (ν := ν) (q) (n := nr) (by omega) (by omega)
  refine z_callS (as := [.int (q), .int (nI nr)]) hl681 ko_L_low kl_L_57 rfl rfl ⟨by decide, by decide, by show u + 0 ≤ 600086; omega, by show us + 0 ≤ 7301442; omega⟩ (Nat.le_of_ble_eq_true rfl) rfl dL_law_681 ?_
  show zV true E kL_law 0 o 684 (.ref (0) :: .ref (1) :: .ref (J 0) :: .ref (J 1) :: .ref (J 2) :: .ref (J 3) :: .ref (J 4) :: .ref (J 5) :: .ref (J 6) :: .ref (J 7) :: .ref (J 8) :: .int (nI at9) :: .ref (J 9) :: .ref (J 10) :: .int (nI nr) :: .int (nI nc) :: .int (nI ni) :: .int (nI tn) :: .int (z) :: .int (q) :: .int (nI kd) :: .int (nI c) :: .null :: .null :: .null :: .null :: .null :: .null :: .null :: .null :: .null :: .null :: .null :: []) [.int (nI k681), .int (nI 1)] (zm μ (J, 11, ν)) (u + 0) (us + 0)
  refine m_addN dL_law_684 ?_
  refine z_istore (by decide) rfl dL_law_685 ?_
  refine z_aload_n rfl rfl dL_law_687 ?_
  refine z_iload rfl dL_law_688 ?_
  refine z_sipush (nI 1000) (by decide) dL_law_690 ?_
  refine z_callV (as := [.int (nI (1 + k681)), .int (nI 1000)]) (by have h := ct_X7_chart (E := E) (μ := μ) (g := (J, 11, ν)) hnc hn12 (nr := nr) hnr (by omega) (r := 1 + k681) (by omega) (by omega) (y := nI 1000) (rf := rf) (rt := rt) (fun i hi => ⟨(hL i hi).1.1, (hL i hi).1.2.1, by have := (hL i hi).1.2.2.1; omega, by have := (hL i hi).1.2.2.2; omega⟩); rw [if_neg (fun q => q (zyr_nI (by omega))), if_neg (fun q => q (by omega))] at h; exact h) ko_X7_chart kl_L_74 rfl (zl_a rfl rfl) rfl rfl ⟨by decide, by decide, by show u + 0 + 2 ≤ 600086; omega, by show us + 0 + 12 ≤ 7301442; omega⟩ (Nat.le_of_ble_eq_true rfl) rfl dL_law_693 ?_
  show zV true E kL_law 0 o 696 (.ref (0) :: .ref (1) :: .ref (J 0) :: .ref (J 1) :: .ref (J 2) :: .ref (J 3) :: .ref (J 4) :: .ref (J 5) :: .ref (J 6) :: .ref (J 7) :: .ref (J 8) :: .int (nI at9) :: .ref (J 9) :: .ref (J 10) :: .int (nI nr) :: .int (nI nc) :: .int (nI ni) :: .int (nI tn) :: .int (z) :: .int (q) :: .int (nI kd) :: .int (nI c) :: .int (nI (1 + k681)) :: .null :: .null :: .null :: .null :: .null :: .null :: .null :: .null :: .null :: .null :: []) [.int (nI nc)] (zm (cchart rf rt nc (1 + k681) (nI 1000) μ) (J, 11, ν)) (u + 0 + 2) (us + 0 + 12)
  refine z_iload rfl dL_law_696 ?_
  refine z_icmp_eq 703 (by decide) dL_law_698 (fun _ => ?_) (fun h => absurd rfl h)
  refine z_iconst (nI 0) (by decide) dL_law_703 ?_
  refine z_istore (by decide) rfl dL_law_704 ?_
  refine lp_A1 hE (ν := ν) (r := 1 + k681) h5 ?_ _ 0 rfl (by omega)
  refine z_aload_n rfl rfl dL_law_760 ?_
  refine z_bipush (nI 10) (by decide) dL_law_761 ?_
  refine z_iload rfl dL_law_763 ?_
  refine m_mulN dL_law_765 ?_
  refine z_aload rfl dL_law_766 ?_
  refine z_iconst (nI 0) (by decide) dL_law_768 ?_
  refine m_xald 4 (0) 64 rfl (by decide) rfl (by omega) (by decide) dL_law_769 ?_
  refine m_xast 0 (10 * nc) 64 rfl (by decide) rfl (by omega) (by decide) dL_law_770 ?_
  refine z_aload_n rfl rfl dL_law_771 ?_
  refine z_bipush (nI 10) (by decide) dL_law_772 ?_
  refine z_iload rfl dL_law_774 ?_
  refine m_mulN dL_law_776 ?_
  refine z_aload rfl dL_law_777 ?_
  refine z_bipush (nI 10) (by decide) dL_law_779 ?_
  refine m_xald 4 (10) 64 rfl (by decide) rfl (by omega) (by decide) dL_law_781 ?_
  refine m_xast 1 (10 * nc) 64 rfl (by decide) rfl (by omega) (by decide) dL_law_782 ?_
  refine z_aload rfl dL_law_783 ?_
  refine z_iload rfl dL_law_785 ?_
  refine z_sipush (nI 1000) (by decide) dL_law_787 ?_
  refine m_xast 6 (nc) 8 rfl (by decide) rfl (by omega) (by decide) dL_law_790 ?_
  refine z_iconst (nI 1) (by decide) dL_law_791 ?_
  refine z_istore (by decide) rfl dL_law_792 ?_
  show zV true E kL_law 0 o 794 (.ref (0) :: .ref (1) :: .ref (J 0) :: .ref (J 1) :: .ref (J 2) :: .ref (J 3) :: .ref (J 4) :: .ref (J 5) :: .ref (J 6) :: .ref (J 7) :: .ref (J 8) :: .int (nI at9) :: .ref (J 9) :: .ref (J 10) :: .int (nI nr) :: .int (nI nc) :: .int (nI ni) :: .int (nI tn) :: .int (z) :: .int (q) :: .int (nI kd) :: .int (nI c) :: .int (nI (1 + k681)) :: .int (nI 1) :: .null :: .null :: .null :: .null :: .null :: .null :: .null :: .null :: .null :: []) [] (zm (cchart rf rt nc (1 + k681) (nI 1000) μ) (J, 11, (lc0 nc ν))) (u + 0 + 2) (us + 0 + 12)
  have hw4 : ∀ q, lc0 nc ν 9 q = ν 9 q := fun q => (lc0_f (d := nc) ν).2.2.2 9 q (by omega) (by omega)
  have hc6 := (cch1_f (c := nc) (y := nI 1000) μ).2.2.2.2.2
  refine lp_H hE (J0 := J) (μ0 := μ) (W := lc0 nc ν) (σ0 := cch1 nc (nI 1000) μ) (rf := rf) (rt := rt) (nr := nr) (ni := ni) (at9 := at9) (tn := tn) (kd := kd) (c := c) (z := z) (q := q) (r := 1 + k681) (U := u + 4) h5 (by omega) (fun k hk => ?_) (fun k hk => ?_) (by omega) (fun i V σ u2 us2 hC hu2 hus2 => ?_) _ 0 1 _ _ _ _ rfl (ch_0 hI h5) (Or.inr rfl) (by show u + 0 + 2 ≤ _; omega) (by show us + 0 + 12 ≤ 64 * (u + 0 + 2); omega)
  · obtain ⟨⟨-, -, l1, l2⟩, -, ⟨l3, l4⟩, l5, l6⟩ := hL k (by omega)
    rw [hc6 13 k (by omega), hc6 14 k (by omega), hw4, hw4]
    exact ⟨⟨l1, l2⟩, ⟨l3, l4⟩, l5, l6⟩
  · rw [hw4, hw4]
    exact (hL k (by omega)).2.1
  refine z_iinc (nI (nc + 1)) rfl (zincN _ 1) (by decide) rfl dL_law_1106 ?_
  refine z_goto 2482 (by decide) dL_law_1109 ?_
  refine z_fgt (.ref (0) :: .ref (1) :: .ref (J 0) :: .ref (J 1) :: .ref (J 2) :: .ref (J 3) :: .ref (J 4) :: .ref (J 5) :: .ref (J 6) :: .ref (J 7) :: .ref (J 8) :: .int (nI at9) :: .ref (J 9) :: .ref (J 10) :: .int (nI nr) :: .int (nI (nc + 1)) :: .int (nI ni) :: .int (nI tn) :: .null :: .null :: .null :: .null :: .null :: .null :: .null :: .null :: .null :: .null :: .null :: .null :: .null :: .null :: .null :: []) ⟨Or.inl rfl, ⟨Or.inl rfl, ⟨Or.inl rfl, ⟨Or.inl rfl, ⟨Or.inl rfl, ⟨Or.inl rfl, ⟨Or.inl rfl, ⟨Or.inl rfl, ⟨Or.inl rfl, ⟨Or.inl rfl, ⟨Or.inl rfl, ⟨Or.inl rfl, ⟨Or.inl rfl, ⟨Or.inl rfl, ⟨Or.inl rfl, ⟨Or.inl rfl, ⟨Or.inl rfl, ⟨Or.inl rfl, ⟨Or.inr rfl, ⟨Or.inr rfl, ⟨Or.inr rfl, ⟨Or.inr rfl, ⟨Or.inr rfl, ⟨Or.inl rfl, ⟨Or.inl rfl, ⟨Or.inl rfl, ⟨Or.inl rfl, ⟨Or.inl rfl, ⟨Or.inl rfl, ⟨Or.inl rfl, ⟨Or.inl rfl, ⟨Or.inl rfl, ⟨Or.inl rfl, trivial⟩⟩⟩⟩⟩⟩⟩⟩⟩⟩⟩⟩⟩⟩⟩⟩⟩⟩⟩⟩⟩⟩⟩⟩⟩⟩⟩⟩⟩⟩⟩⟩⟩ ?_
  exact kk _ _ _ _ _ _ (v_chart hI h5 hC) (by show u2 ≤ _; omega) (by show us2 ≤ 64 * (u2); omega)
