/-! a turn of the law: paste (printed by wip/p25/gen_8.py) -/
set_option maxRecDepth 100000 in
set_option maxHeartbeats 4000000 in
theorem lp_Q {E : Nat × (Nat → Int32)} (hE : E.1 ≤ 260) {o : zO} {J : Nat → Nat} {μ ν : zMu} {nc nr ni : Nat} {rf rt : Nat → Nat} (hI : iv μ ν nc nr ni rf rt) {at9 tn kd c b f t : Nat} (hc : c < nc) (hb : b < nc) (hcb : ¬ c = b) (hft : f ≤ t) (ht : t < 10) {X Y z q : Int32} {u us : Nat} (hu : u ≤ 70100) (hus : us ≤ 64 * u + 1000)  {p : Nat} (hp : p < 10) {g : Nat → Nat} (hg : ∀ c, c < nc → ∀ j, j < nc → zsrc μ nc p (nI c) = nI j → g j < g c) {g2 : Nat} {Z : Prop} (kk : ∀ l, (l = -1 ∧ ¬ Z) ∨ (l = nI c ∧ Z) → zV true E kL_law 0 o 1722 (.ref (0) :: .ref (1) :: .ref (J 0) :: .ref (J 1) :: .ref (J 2) :: .ref (J 3) :: .ref (J 4) :: .ref (J 5) :: .ref (J 6) :: .ref (J 7) :: .ref (J 8) :: .int (nI at9) :: .ref (J 9) :: .ref (J 10) :: .int (nI nr) :: .int (nI nc) :: .int (nI ni) :: .int (nI tn) :: .int (z) :: .int (q) :: .int (nI kd) :: .int (nI c) :: .int (nI b) :: .int (nI f) :: .int (nI t) :: .null :: .int (X) :: .int (Y) :: .int (nI g2) :: .int (nI p) :: .int (l) :: .null :: .null :: []) [] (zm μ (J, 11, ν)) u us) : ∀ (n : Nat) (r : Nat) (l : Int32), r = n → (l = -1 ∨ ∃ j, j < nc ∧ l = nI j ∧ g j < r) → (Z ↔ hitE μ nc p c l) → zV true E kL_law 0 o 1676 (.ref (0) :: .ref (1) :: .ref (J 0) :: .ref (J 1) :: .ref (J 2) :: .ref (J 3) :: .ref (J 4) :: .ref (J 5) :: .ref (J 6) :: .ref (J 7) :: .ref (J 8) :: .int (nI at9) :: .ref (J 9) :: .ref (J 10) :: .int (nI nr) :: .int (nI nc) :: .int (nI ni) :: .int (nI tn) :: .int (z) :: .int (q) :: .int (nI kd) :: .int (nI c) :: .int (nI b) :: .int (nI f) :: .int (nI t) :: .null :: .int (X) :: .int (Y) :: .int (nI g2) :: .int (nI p) :: .int (l) :: .null :: .null :: []) [] (zm μ (J, 11, ν)) u us := by
  intro n
  induction n using Nat.strongRecOn with
  | ind n ih =>
    intro r l e hl hZ
    obtain ⟨⟨⟨hnc, hn5⟩, ⟨hnr, h6, h13⟩, ⟨hni, hn4⟩⟩, hT, hL, hY, hB, hK, hA⟩ := id hI
    have hn12 : nc ≤ 12 := by omega
    rcases hl with rfl | ⟨j, hj, rfl, hgj⟩
    · refine z_iload rfl dL_law_1676 ?_
      refine z_if_lt 1722 (by decide) dL_law_1678 (fun _ => ?_) (fun h => absurd h (by decide))
      exact kk _ (Or.inl ⟨rfl, fun w => hitE_m (hZ.mp w)⟩)
    · refine z_iload rfl dL_law_1676 ?_
      refine z_if_lt 1722 (by decide) dL_law_1678 (fun h => absurd h (nI_pos (n := j) (by omega))) (fun _ => ?_)
      refine z_iload rfl dL_law_1681 ?_
      refine z_iload rfl dL_law_1683 ?_
      refine z_icmp_eq 1722 (by decide) dL_law_1685 (z_br (zcn (n := j) (by omega) (c) (by omega)).1 (fun h1685t => ?_)) (z_brn (zcn (n := j) (by omega) (c) (by omega)).1 (fun h1685f => ?_))
      · exact kk _ (Or.inr ⟨by rw [h1685t], hZ.mpr ((hitE_n hn5 hc hj).mpr (Or.inl h1685t))⟩)
      · refine z_aload rfl dL_law_1688 ?_
        refine z_bipush (nI 10) (by decide) dL_law_1690 ?_
        refine z_iload rfl dL_law_1692 ?_
        refine m_mulN dL_law_1694 ?_
        refine z_iload rfl dL_law_1695 ?_
        refine m_addN dL_law_1697 ?_
        refine m_xald 3 ((10 * j) + p) 64 rfl (by decide) rfl (by omega) (by decide) dL_law_1698 ?_
        refine z_if_ge 1706 (by decide) dL_law_1699 (fun h1699t => ?_) (fun h1699f => ?_)
        · refine z_aload rfl dL_law_1706 ?_
          refine z_bipush (nI 10) (by decide) dL_law_1708 ?_
          refine z_iload rfl dL_law_1710 ?_
          refine m_mulN dL_law_1712 ?_
          refine z_iload rfl dL_law_1713 ?_
          refine m_addN dL_law_1715 ?_
          refine m_xald 3 ((10 * j) + p) 64 rfl (by decide) rfl (by omega) (by decide) dL_law_1716 ?_
          refine z_istore (by decide) rfl dL_law_1717 ?_
          refine z_goto 1676 (by decide) dL_law_1719 ?_
          have hs := chain_s hn5 hj ((hK j hj).2.2.1 p hp)
          obtain ⟨e1, i, hi, e2⟩ := hs.2 (Int32.not_lt.mpr h1699t)
          exact ih (g j) (by omega) (g j) _ rfl (Or.inr ⟨i, hi, e2, hg j hj i hi (e1.trans e2)⟩) (hZ.trans ((hitE_n hn5 hc hj).trans (by rw [e1]; exact ⟨fun w => w.elim (fun z => absurd z h1685f) id, Or.inr⟩)))
        · refine z_iconst (-1) (by decide) dL_law_1702 ?_
          refine z_goto 1717 (by decide) dL_law_1703 ?_
          refine z_istore (by decide) rfl dL_law_1717 ?_
          refine z_goto 1676 (by decide) dL_law_1719 ?_
          have hs := chain_s hn5 hj ((hK j hj).2.2.1 p hp)
          have e1 := hs.1 (Int32.not_le.mp h1699f)
          exact ih (g j) (by omega) (g j) _ rfl (Or.inl rfl) (hZ.trans ((hitE_n hn5 hc hj).trans (by rw [e1]; exact ⟨fun w => w.elim (fun z => absurd z h1685f) id, Or.inr⟩)))
set_option maxRecDepth 100000 in
set_option maxHeartbeats 4000000 in
theorem lp_O {E : Nat × (Nat → Int32)} (hE : E.1 ≤ 260) {o : zO} {J : Nat → Nat} {μ ν : zMu} {nc nr ni : Nat} {rf rt : Nat → Nat} (hI : iv μ ν nc nr ni rf rt) {at9 tn kd c b f t : Nat} (hc : c < nc) (hb : b < nc) (hcb : ¬ c = b) (hft : f ≤ t) (ht : t < 10) {X Y z q : Int32} {u us : Nat} (hu : u ≤ 70100) (hus : us ≤ 64 * u + 1000)  (rX : rb 100000 X) (rY : rb 100000 Y) {YR : Prop} (kk : ∀ g1, sB g1 (YR ∧ ∀ j, j < t + 1 - f → ¬ zld μ nc (f + j) (nI c) 12 (nI b) ∧ cmvP μ b X Y (f + j)) → zV true E kL_law 0 o 1747 (.ref (0) :: .ref (1) :: .ref (J 0) :: .ref (J 1) :: .ref (J 2) :: .ref (J 3) :: .ref (J 4) :: .ref (J 5) :: .ref (J 6) :: .ref (J 7) :: .ref (J 8) :: .int (nI at9) :: .ref (J 9) :: .ref (J 10) :: .int (nI nr) :: .int (nI nc) :: .int (nI ni) :: .int (nI tn) :: .int (z) :: .int (q) :: .int (nI kd) :: .int (nI c) :: .int (nI b) :: .int (nI f) :: .int (nI t) :: .null :: .int (X) :: .int (Y) :: .int (nI g1) :: .null :: .null :: .null :: .null :: []) [] (zm μ (J, 11, ν)) u us) : ∀ (n : Nat) (i g1 : Nat), t + 1 - f - i = n → i ≤ t + 1 - f → sB g1 (YR ∧ ∀ j, j < i → ¬ zld μ nc (f + j) (nI c) 12 (nI b) ∧ cmvP μ b X Y (f + j)) → zV true E kL_law 0 o 1584 (.ref (0) :: .ref (1) :: .ref (J 0) :: .ref (J 1) :: .ref (J 2) :: .ref (J 3) :: .ref (J 4) :: .ref (J 5) :: .ref (J 6) :: .ref (J 7) :: .ref (J 8) :: .int (nI at9) :: .ref (J 9) :: .ref (J 10) :: .int (nI nr) :: .int (nI nc) :: .int (nI ni) :: .int (nI tn) :: .int (z) :: .int (q) :: .int (nI kd) :: .int (nI c) :: .int (nI b) :: .int (nI f) :: .int (nI t) :: .null :: .int (X) :: .int (Y) :: .int (nI g1) :: .int (nI (f + i)) :: .null :: .null :: .null :: []) [] (zm μ (J, 11, ν)) u us := by
  intro n
  induction n using Nat.strongRecOn with
  | ind n ih =>
    intro i g1 e hi hg
    obtain ⟨⟨⟨hnc, hn5⟩, ⟨hnr, h6, h13⟩, ⟨hni, hn4⟩⟩, hT, hL, hY, hB, hK, hA⟩ := id hI
    have hn12 : nc ≤ 12 := by omega
    refine z_iload rfl dL_law_1584 ?_
    refine z_iload rfl dL_law_1586 ?_
    refine z_icmp_gt 1747 (by decide) dL_law_1588 (z_br (zcn (n := t) (by omega) (f + i) (by omega)).2.1 (fun h1588t => ?_)) (z_brn (zcn (n := t) (by omega) (f + i) (by omega)).2.1 (fun h1588f => ?_))
    · obtain rfl : i = t + 1 - f := by omega
      refine z_fgt (.ref (0) :: .ref (1) :: .ref (J 0) :: .ref (J 1) :: .ref (J 2) :: .ref (J 3) :: .ref (J 4) :: .ref (J 5) :: .ref (J 6) :: .ref (J 7) :: .ref (J 8) :: .int (nI at9) :: .ref (J 9) :: .ref (J 10) :: .int (nI nr) :: .int (nI nc) :: .int (nI ni) :: .int (nI tn) :: .int (z) :: .int (q) :: .int (nI kd) :: .int (nI c) :: .int (nI b) :: .int (nI f) :: .int (nI t) :: .null :: .int (X) :: .int (Y) :: .int (nI g1) :: .null :: .null :: .null :: .null :: []) ⟨Or.inl rfl, ⟨Or.inl rfl, ⟨Or.inl rfl, ⟨Or.inl rfl, ⟨Or.inl rfl, ⟨Or.inl rfl, ⟨Or.inl rfl, ⟨Or.inl rfl, ⟨Or.inl rfl, ⟨Or.inl rfl, ⟨Or.inl rfl, ⟨Or.inl rfl, ⟨Or.inl rfl, ⟨Or.inl rfl, ⟨Or.inl rfl, ⟨Or.inl rfl, ⟨Or.inl rfl, ⟨Or.inl rfl, ⟨Or.inl rfl, ⟨Or.inl rfl, ⟨Or.inl rfl, ⟨Or.inl rfl, ⟨Or.inl rfl, ⟨Or.inl rfl, ⟨Or.inl rfl, ⟨Or.inl rfl, ⟨Or.inl rfl, ⟨Or.inl rfl, ⟨Or.inl rfl, ⟨Or.inr rfl, ⟨Or.inl rfl, ⟨Or.inl rfl, ⟨Or.inl rfl, trivial⟩⟩⟩⟩⟩⟩⟩⟩⟩⟩⟩⟩⟩⟩⟩⟩⟩⟩⟩⟩⟩⟩⟩⟩⟩⟩⟩⟩⟩⟩⟩⟩⟩ ?_
      exact kk g1 hg
    · have hp : f + i < 10 := by omega
      have hP := (hK b hb).2.2.1 (f + i) hp
      have hq := iP_kn hn5 (by omega) hP
      have hzE := zld_E hn5 (show f + i < 24 by omega) hc hb hcb hK hA
      obtain ⟨gg, gg1, gg2⟩ := iA_g hn5 (show f + i < 24 by omega) hA
      have hg1 := sB_le hg
      have secQ : ∀ (g2 : Nat) (l : Int32), sB g2 ((YR ∧ ∀ j, j < i → ¬ zld μ nc (f + j) (nI c) 12 (nI b) ∧ cmvP μ b X Y (f + j)) ∧ cmvP μ b X Y (f + i)) → (l = -1 ∨ ∃ j, j < nc ∧ l = nI j ∧ gg j < 100) → (zld μ nc (f + i) (nI c) 12 (nI b) ↔ hitE μ nc (f + i) c l) → zV true E kL_law 0 o 1676 (.ref (0) :: .ref (1) :: .ref (J 0) :: .ref (J 1) :: .ref (J 2) :: .ref (J 3) :: .ref (J 4) :: .ref (J 5) :: .ref (J 6) :: .ref (J 7) :: .ref (J 8) :: .int (nI at9) :: .ref (J 9) :: .ref (J 10) :: .int (nI nr) :: .int (nI nc) :: .int (nI ni) :: .int (nI tn) :: .int (z) :: .int (q) :: .int (nI kd) :: .int (nI c) :: .int (nI b) :: .int (nI f) :: .int (nI t) :: .null :: .int (X) :: .int (Y) :: .int (nI g2) :: .int (nI (f + i)) :: .int (l) :: .null :: .null :: []) [] (zm μ (J, 11, ν)) u us := by
        intro g2 l hg2 hl2 hZ
        have hg3 := sB_le hg2
        refine lp_Q hE hI hc hb hcb hft ht (by omega) (by omega) hp gg2 (Z := zld μ nc (f + i) (nI c) 12 (nI b)) (fun l hl => ?_) _ 100 l rfl hl2 hZ
        refine z_iload rfl dL_law_1722 ?_
        refine z_if_eq 1738 (by decide) dL_law_1724 (z_br (z0e (n := g2) (by omega)) (fun h1724t => ?_)) (z_brn (z0e (n := g2) (by omega)) (fun h1724f => ?_))
        · refine z_iconst (nI 0) (by decide) dL_law_1738 ?_
          refine z_istore (by decide) rfl dL_law_1739 ?_
          refine z_iinc (nI (f + i + 1)) rfl (zincN _ 1) (by decide) rfl dL_law_1741 ?_
          refine z_goto 1584 (by decide) dL_law_1744 ?_
          refine z_fgt (.ref (0) :: .ref (1) :: .ref (J 0) :: .ref (J 1) :: .ref (J 2) :: .ref (J 3) :: .ref (J 4) :: .ref (J 5) :: .ref (J 6) :: .ref (J 7) :: .ref (J 8) :: .int (nI at9) :: .ref (J 9) :: .ref (J 10) :: .int (nI nr) :: .int (nI nc) :: .int (nI ni) :: .int (nI tn) :: .int (z) :: .int (q) :: .int (nI kd) :: .int (nI c) :: .int (nI b) :: .int (nI f) :: .int (nI t) :: .null :: .int (X) :: .int (Y) :: .int (nI 0) :: .int (nI (f + i + 1)) :: .null :: .null :: .null :: []) ⟨Or.inl rfl, ⟨Or.inl rfl, ⟨Or.inl rfl, ⟨Or.inl rfl, ⟨Or.inl rfl, ⟨Or.inl rfl, ⟨Or.inl rfl, ⟨Or.inl rfl, ⟨Or.inl rfl, ⟨Or.inl rfl, ⟨Or.inl rfl, ⟨Or.inl rfl, ⟨Or.inl rfl, ⟨Or.inl rfl, ⟨Or.inl rfl, ⟨Or.inl rfl, ⟨Or.inl rfl, ⟨Or.inl rfl, ⟨Or.inl rfl, ⟨Or.inl rfl, ⟨Or.inl rfl, ⟨Or.inl rfl, ⟨Or.inl rfl, ⟨Or.inl rfl, ⟨Or.inl rfl, ⟨Or.inl rfl, ⟨Or.inl rfl, ⟨Or.inl rfl, ⟨Or.inl rfl, ⟨Or.inl rfl, ⟨Or.inr rfl, ⟨Or.inl rfl, ⟨Or.inl rfl, trivial⟩⟩⟩⟩⟩⟩⟩⟩⟩⟩⟩⟩⟩⟩⟩⟩⟩⟩⟩⟩⟩⟩⟩⟩⟩⟩⟩⟩⟩⟩⟩⟩⟩ ?_
          exact ih (t + 1 - f - (i + 1)) (by omega) (i + 1) 0 rfl (by omega) (Or.inr ⟨rfl, fun w => sB_0 hg2 h1724t ⟨⟨w.1, (all_s.mp w.2).1⟩, ((all_s.mp w.2).2).2⟩⟩)
        · refine z_iload rfl dL_law_1727 ?_
          refine z_iload rfl dL_law_1729 ?_
          refine z_icmp_eq 1738 (by decide) dL_law_1731 (fun h1731t => ?_) (fun h1731f => ?_)
          · refine z_iconst (nI 0) (by decide) dL_law_1738 ?_
            refine z_istore (by decide) rfl dL_law_1739 ?_
            refine z_iinc (nI (f + i + 1)) rfl (zincN _ 1) (by decide) rfl dL_law_1741 ?_
            refine z_goto 1584 (by decide) dL_law_1744 ?_
            refine z_fgt (.ref (0) :: .ref (1) :: .ref (J 0) :: .ref (J 1) :: .ref (J 2) :: .ref (J 3) :: .ref (J 4) :: .ref (J 5) :: .ref (J 6) :: .ref (J 7) :: .ref (J 8) :: .int (nI at9) :: .ref (J 9) :: .ref (J 10) :: .int (nI nr) :: .int (nI nc) :: .int (nI ni) :: .int (nI tn) :: .int (z) :: .int (q) :: .int (nI kd) :: .int (nI c) :: .int (nI b) :: .int (nI f) :: .int (nI t) :: .null :: .int (X) :: .int (Y) :: .int (nI 0) :: .int (nI (f + i + 1)) :: .null :: .null :: .null :: []) ⟨Or.inl rfl, ⟨Or.inl rfl, ⟨Or.inl rfl, ⟨Or.inl rfl, ⟨Or.inl rfl, ⟨Or.inl rfl, ⟨Or.inl rfl, ⟨Or.inl rfl, ⟨Or.inl rfl, ⟨Or.inl rfl, ⟨Or.inl rfl, ⟨Or.inl rfl, ⟨Or.inl rfl, ⟨Or.inl rfl, ⟨Or.inl rfl, ⟨Or.inl rfl, ⟨Or.inl rfl, ⟨Or.inl rfl, ⟨Or.inl rfl, ⟨Or.inl rfl, ⟨Or.inl rfl, ⟨Or.inl rfl, ⟨Or.inl rfl, ⟨Or.inl rfl, ⟨Or.inl rfl, ⟨Or.inl rfl, ⟨Or.inl rfl, ⟨Or.inl rfl, ⟨Or.inl rfl, ⟨Or.inl rfl, ⟨Or.inr rfl, ⟨Or.inl rfl, ⟨Or.inl rfl, trivial⟩⟩⟩⟩⟩⟩⟩⟩⟩⟩⟩⟩⟩⟩⟩⟩⟩⟩⟩⟩⟩⟩⟩⟩⟩⟩⟩⟩⟩⟩⟩⟩⟩ ?_
            exact ih (t + 1 - f - (i + 1)) (by omega) (i + 1) 0 rfl (by omega) (Or.inr ⟨rfl, fun w => hl.elim (fun y => znm1 (by omega) (y.1.symm.trans h1731t)) (fun y => ((all_s.mp w.2).2).1 y.2)⟩)
          · refine z_iconst (nI 1) (by decide) dL_law_1734 ?_
            refine z_goto 1739 (by decide) dL_law_1735 ?_
            refine z_istore (by decide) rfl dL_law_1739 ?_
            refine z_iinc (nI (f + i + 1)) rfl (zincN _ 1) (by decide) rfl dL_law_1741 ?_
            refine z_goto 1584 (by decide) dL_law_1744 ?_
            refine z_fgt (.ref (0) :: .ref (1) :: .ref (J 0) :: .ref (J 1) :: .ref (J 2) :: .ref (J 3) :: .ref (J 4) :: .ref (J 5) :: .ref (J 6) :: .ref (J 7) :: .ref (J 8) :: .int (nI at9) :: .ref (J 9) :: .ref (J 10) :: .int (nI nr) :: .int (nI nc) :: .int (nI ni) :: .int (nI tn) :: .int (z) :: .int (q) :: .int (nI kd) :: .int (nI c) :: .int (nI b) :: .int (nI f) :: .int (nI t) :: .null :: .int (X) :: .int (Y) :: .int (nI 1) :: .int (nI (f + i + 1)) :: .null :: .null :: .null :: []) ⟨Or.inl rfl, ⟨Or.inl rfl, ⟨Or.inl rfl, ⟨Or.inl rfl, ⟨Or.inl rfl, ⟨Or.inl rfl, ⟨Or.inl rfl, ⟨Or.inl rfl, ⟨Or.inl rfl, ⟨Or.inl rfl, ⟨Or.inl rfl, ⟨Or.inl rfl, ⟨Or.inl rfl, ⟨Or.inl rfl, ⟨Or.inl rfl, ⟨Or.inl rfl, ⟨Or.inl rfl, ⟨Or.inl rfl, ⟨Or.inl rfl, ⟨Or.inl rfl, ⟨Or.inl rfl, ⟨Or.inl rfl, ⟨Or.inl rfl, ⟨Or.inl rfl, ⟨Or.inl rfl, ⟨Or.inl rfl, ⟨Or.inl rfl, ⟨Or.inl rfl, ⟨Or.inl rfl, ⟨Or.inl rfl, ⟨Or.inr rfl, ⟨Or.inl rfl, ⟨Or.inl rfl, trivial⟩⟩⟩⟩⟩⟩⟩⟩⟩⟩⟩⟩⟩⟩⟩⟩⟩⟩⟩⟩⟩⟩⟩⟩⟩⟩⟩⟩⟩⟩⟩⟩⟩ ?_
            exact ih (t + 1 - f - (i + 1)) (by omega) (i + 1) 1 rfl (by omega) (Or.inl ⟨rfl, (sB_1 hg2 h1724f).1.1, all_s.mpr ⟨(sB_1 hg2 h1724f).1.2, hl.elim And.right (fun y => absurd y.1 h1731f), (sB_1 hg2 h1724f).2⟩⟩)
      by_cases hk : ν 3 (10 * b + (f + i)) = -2
      · have hs1 := (chain_s hn5 hb hP).1 (by rw [hk]; decide)
        refine z_aload rfl dL_law_1591 ?_
        refine z_bipush (nI 10) (by decide) dL_law_1593 ?_
        refine z_iload rfl dL_law_1595 ?_
        refine m_mulN dL_law_1597 ?_
        refine z_iload rfl dL_law_1598 ?_
        refine m_addN dL_law_1600 ?_
        refine m_xald 3 ((10 * b) + (f + i)) 64 rfl (by decide) rfl (by omega) (by decide) dL_law_1601 ?_
        refine z_bipush (-2) (by decide) dL_law_1602 ?_
        refine z_icmp_ne 1611 (by decide) dL_law_1604 (fun h1604t => ((h1604t hk : False)).elim) (fun h1604f => ?_)
        refine z_iconst (-1) (by decide) dL_law_1607 ?_
        refine z_goto 1613 (by decide) dL_law_1608 ?_
        refine z_istore (by decide) rfl dL_law_1613 ?_
        refine z_iload rfl dL_law_1615 ?_
        refine z_if_lt 1676 (by decide) dL_law_1617 (fun _ => ?_) (fun h => absurd h (by decide))
        exact secQ g1 (-1) (sB_c ⟨fun w => ⟨w, fun zk => absurd hk (hq.mp zk)⟩, And.left⟩ hg) (Or.inl rfl) (hzE.trans ((hitE_n hn5 hc hb).trans (by rw [hs1]; exact ⟨fun w => w.elim (fun z => absurd z.symm hcb) id, Or.inr⟩)))
      · have hz := hq.mpr hk
        obtain ⟨a1, a2, r1, r2⟩ : μ (34 + 7 * b) (f + i) = ν 0 (10 * b + (f + i)) ∧ μ (35 + 7 * b) (f + i) = ν 1 (10 * b + (f + i)) ∧ rb 1000000 (ν 0 (10 * b + (f + i)) + X) ∧ rb 1000000 (ν 1 (10 * b + (f + i)) + Y) := by
          rcases hP.2 with ⟨q1, -⟩ | ⟨q1, q2, q3, q4, q5, q6⟩
          · exact absurd q1 hk
          · exact ⟨q2, q3, rb_add q5 rX (by omega) (by omega), rb_add q6 rY (by omega) (by omega)⟩
        refine z_aload rfl dL_law_1591 ?_
        refine z_bipush (nI 10) (by decide) dL_law_1593 ?_
        refine z_iload rfl dL_law_1595 ?_
        refine m_mulN dL_law_1597 ?_
        refine z_iload rfl dL_law_1598 ?_
        refine m_addN dL_law_1600 ?_
        refine m_xald 3 ((10 * b) + (f + i)) 64 rfl (by decide) rfl (by omega) (by decide) dL_law_1601 ?_
        refine z_bipush (-2) (by decide) dL_law_1602 ?_
        refine z_icmp_ne 1611 (by decide) dL_law_1604 (fun h1604t => ?_) (fun h1604f => ((hk h1604f : False)).elim)
        refine z_iload rfl dL_law_1611 ?_
        refine z_istore (by decide) rfl dL_law_1613 ?_
        refine z_iload rfl dL_law_1615 ?_
        refine z_if_lt 1676 (by decide) dL_law_1617 (fun h => absurd h (nI_pos (n := b) (by omega))) (fun _ => ?_)
        refine z_iload rfl dL_law_1620 ?_
        refine z_if_eq 1673 (by decide) dL_law_1622 (z_br (z0e (n := g1) (by omega)) (fun h1622t => ?_)) (z_brn (z0e (n := g1) (by omega)) (fun h1622f => ?_))
        · refine z_iconst (nI 0) (by decide) dL_law_1673 ?_
          refine z_istore (by decide) rfl dL_law_1674 ?_
          exact secQ 0 (nI b) (Or.inr ⟨rfl, fun w => sB_0 hg h1622t w.1⟩) (Or.inr ⟨b, hb, rfl, by have := gg1 b hb; omega⟩) hzE
        · refine z_aload_n rfl rfl dL_law_1625 ?_
          refine z_bipush (nI 10) (by decide) dL_law_1626 ?_
          refine z_iload rfl dL_law_1628 ?_
          refine m_mulN dL_law_1630 ?_
          refine z_iload rfl dL_law_1631 ?_
          refine m_addN dL_law_1633 ?_
          refine m_xald 0 ((10 * b) + (f + i)) 64 rfl (by decide) rfl (by omega) (by decide) dL_law_1634 ?_
          refine z_iload rfl dL_law_1635 ?_
          refine z_iadd dL_law_1637 ?_
          refine z_callS (as := [.int ((ν 0 ((10 * b) + (f + i))) + X)]) (ct_L_size ((ν 0 ((10 * b) + (f + i))) + X)) ko_L_size kl_L_34 rfl rfl ⟨by decide, by decide, by show u + 0 ≤ 600086; omega, by show us + 0 ≤ 7301442; omega⟩ (Nat.le_of_ble_eq_true rfl) rfl dL_law_1638 ?_
          show zV true E kL_law 0 o 1641 (.ref (0) :: .ref (1) :: .ref (J 0) :: .ref (J 1) :: .ref (J 2) :: .ref (J 3) :: .ref (J 4) :: .ref (J 5) :: .ref (J 6) :: .ref (J 7) :: .ref (J 8) :: .int (nI at9) :: .ref (J 9) :: .ref (J 10) :: .int (nI nr) :: .int (nI nc) :: .int (nI ni) :: .int (nI tn) :: .int (z) :: .int (q) :: .int (nI kd) :: .int (nI c) :: .int (nI b) :: .int (nI f) :: .int (nI t) :: .null :: .int (X) :: .int (Y) :: .int (nI g1) :: .int (nI (f + i)) :: .int (nI b) :: .null :: .null :: []) [.int (zab ((ν 0 ((10 * b) + (f + i))) + X))] (zm μ (J, 11, ν)) (u + 0) (us + 0)
          refine z_sipush (nI 10000) (by decide) dL_law_1641 ?_
          refine z_icmp_ge 1673 (by decide) dL_law_1644 (fun h1644t => ?_) (fun h1644f => ?_)
          · refine z_iconst (nI 0) (by decide) dL_law_1673 ?_
            refine z_istore (by decide) rfl dL_law_1674 ?_
            exact secQ 0 (nI b) (Or.inr ⟨rfl, fun w => (zab_in r1).mpr (by have y := (w.2 hz).1; rw [a1] at y; exact y) h1644t⟩) (Or.inr ⟨b, hb, rfl, by have := gg1 b hb; omega⟩) hzE
          · refine z_aload_n rfl rfl dL_law_1647 ?_
            refine z_bipush (nI 10) (by decide) dL_law_1648 ?_
            refine z_iload rfl dL_law_1650 ?_
            refine m_mulN dL_law_1652 ?_
            refine z_iload rfl dL_law_1653 ?_
            refine m_addN dL_law_1655 ?_
            refine m_xald 1 ((10 * b) + (f + i)) 64 rfl (by decide) rfl (by omega) (by decide) dL_law_1656 ?_
            refine z_iload rfl dL_law_1657 ?_
            refine z_iadd dL_law_1659 ?_
            refine z_callS (as := [.int ((ν 1 ((10 * b) + (f + i))) + Y)]) (ct_L_size ((ν 1 ((10 * b) + (f + i))) + Y)) ko_L_size kl_L_34 rfl rfl ⟨by decide, by decide, by show u + 0 + 0 ≤ 600086; omega, by show us + 0 + 0 ≤ 7301442; omega⟩ (Nat.le_of_ble_eq_true rfl) rfl dL_law_1660 ?_
            show zV true E kL_law 0 o 1663 (.ref (0) :: .ref (1) :: .ref (J 0) :: .ref (J 1) :: .ref (J 2) :: .ref (J 3) :: .ref (J 4) :: .ref (J 5) :: .ref (J 6) :: .ref (J 7) :: .ref (J 8) :: .int (nI at9) :: .ref (J 9) :: .ref (J 10) :: .int (nI nr) :: .int (nI nc) :: .int (nI ni) :: .int (nI tn) :: .int (z) :: .int (q) :: .int (nI kd) :: .int (nI c) :: .int (nI b) :: .int (nI f) :: .int (nI t) :: .null :: .int (X) :: .int (Y) :: .int (nI g1) :: .int (nI (f + i)) :: .int (nI b) :: .null :: .null :: []) [.int (zab ((ν 1 ((10 * b) + (f + i))) + Y))] (zm μ (J, 11, ν)) (u + 0 + 0) (us + 0 + 0)
            refine z_sipush (nI 10000) (by decide) dL_law_1663 ?_
            refine z_icmp_ge 1673 (by decide) dL_law_1666 (fun h1666t => ?_) (fun h1666f => ?_)
            · refine z_iconst (nI 0) (by decide) dL_law_1673 ?_
              refine z_istore (by decide) rfl dL_law_1674 ?_
              exact secQ 0 (nI b) (Or.inr ⟨rfl, fun w => (zab_in r2).mpr (by have y := (w.2 hz).2; rw [a2] at y; exact y) h1666t⟩) (Or.inr ⟨b, hb, rfl, by have := gg1 b hb; omega⟩) hzE
            · refine z_iconst (nI 1) (by decide) dL_law_1669 ?_
              refine z_goto 1674 (by decide) dL_law_1670 ?_
              refine z_istore (by decide) rfl dL_law_1674 ?_
              exact secQ 1 (nI b) (Or.inl ⟨rfl, sB_1 hg h1622f, fun _ => ⟨by rw [a1]; exact (zab_in r1).mp h1644f, by rw [a2]; exact (zab_in r2).mp h1666f⟩⟩) (Or.inr ⟨b, hb, rfl, by have := gg1 b hb; omega⟩) hzE
set_option maxRecDepth 100000 in
set_option maxHeartbeats 4000000 in
theorem lp_W {E : Nat × (Nat → Int32)} (hE : E.1 ≤ 260) {o : zO} {J : Nat → Nat} {μ ν : zMu} {nc nr ni : Nat} {rf rt : Nat → Nat} (hI : iv μ ν nc nr ni rf rt) {at9 tn kd c b f t : Nat} (hc : c < nc) (hb : b < nc) (hcb : ¬ c = b) (hft : f ≤ t) (ht : t < 10) {X Y z q : Int32} {u us : Nat} (hu : u ≤ 70100) (hus : us ≤ 64 * u + 1000)  (kk : zV true E kL_law 0 o 1859 (.ref (0) :: .ref (1) :: .ref (J 0) :: .ref (J 1) :: .ref (J 2) :: .ref (J 3) :: .ref (J 4) :: .ref (J 5) :: .ref (J 6) :: .ref (J 7) :: .ref (J 8) :: .int (nI at9) :: .ref (J 9) :: .ref (J 10) :: .int (nI nr) :: .int (nI nc) :: .int (nI ni) :: .int (nI tn) :: .int (z) :: .int (q) :: .int (nI kd) :: .int (nI c) :: .int (nI b) :: .int (nI f) :: .int (nI t) :: .null :: .int (X) :: .int (Y) :: .int (nI 1) :: .int (zit (ckn μ b) f (t + 1 - f) (nI 0)) :: .null :: .null :: .null :: []) [] (zm μ (J, 11, (zit (lpa c b X Y) f (t + 1 - f) ν))) u us) : ∀ (n : Nat) (i : Nat) (k9 : Int32), t + 1 - f - i = n → i ≤ t + 1 - f → k9 = zit (ckn μ b) f i (nI 0) → zV true E kL_law 0 o 1754 (.ref (0) :: .ref (1) :: .ref (J 0) :: .ref (J 1) :: .ref (J 2) :: .ref (J 3) :: .ref (J 4) :: .ref (J 5) :: .ref (J 6) :: .ref (J 7) :: .ref (J 8) :: .int (nI at9) :: .ref (J 9) :: .ref (J 10) :: .int (nI nr) :: .int (nI nc) :: .int (nI ni) :: .int (nI tn) :: .int (z) :: .int (q) :: .int (nI kd) :: .int (nI c) :: .int (nI b) :: .int (nI f) :: .int (nI t) :: .null :: .int (X) :: .int (Y) :: .int (nI 1) :: .int (k9) :: .int (nI (f + i)) :: .null :: .null :: []) [] (zm μ (J, 11, (zit (lpa c b X Y) f i ν))) u us := by
  intro n
  induction n using Nat.strongRecOn with
  | ind n ih =>
    intro i k9 e hi hk9
    obtain ⟨⟨⟨hnc, hn5⟩, ⟨hnr, h6, h13⟩, ⟨hni, hn4⟩⟩, hT, hL, hY, hB, hK, hA⟩ := id hI
    have hn12 : nc ≤ 12 := by omega
    refine z_iload rfl dL_law_1754 ?_
    refine z_iload rfl dL_law_1756 ?_
    refine z_icmp_gt 1859 (by decide) dL_law_1758 (z_br (zcn (n := t) (by omega) (f + i) (by omega)).2.1 (fun h1758t => ?_)) (z_brn (zcn (n := t) (by omega) (f + i) (by omega)).2.1 (fun h1758f => ?_))
    · obtain rfl : i = t + 1 - f := by omega
      subst hk9
      refine z_fgt (.ref (0) :: .ref (1) :: .ref (J 0) :: .ref (J 1) :: .ref (J 2) :: .ref (J 3) :: .ref (J 4) :: .ref (J 5) :: .ref (J 6) :: .ref (J 7) :: .ref (J 8) :: .int (nI at9) :: .ref (J 9) :: .ref (J 10) :: .int (nI nr) :: .int (nI nc) :: .int (nI ni) :: .int (nI tn) :: .int (z) :: .int (q) :: .int (nI kd) :: .int (nI c) :: .int (nI b) :: .int (nI f) :: .int (nI t) :: .null :: .int (X) :: .int (Y) :: .int (nI 1) :: .int (zit (ckn μ b) f (t + 1 - f) (nI 0)) :: .null :: .null :: .null :: []) ⟨Or.inl rfl, ⟨Or.inl rfl, ⟨Or.inl rfl, ⟨Or.inl rfl, ⟨Or.inl rfl, ⟨Or.inl rfl, ⟨Or.inl rfl, ⟨Or.inl rfl, ⟨Or.inl rfl, ⟨Or.inl rfl, ⟨Or.inl rfl, ⟨Or.inl rfl, ⟨Or.inl rfl, ⟨Or.inl rfl, ⟨Or.inl rfl, ⟨Or.inl rfl, ⟨Or.inl rfl, ⟨Or.inl rfl, ⟨Or.inl rfl, ⟨Or.inl rfl, ⟨Or.inl rfl, ⟨Or.inl rfl, ⟨Or.inl rfl, ⟨Or.inl rfl, ⟨Or.inl rfl, ⟨Or.inl rfl, ⟨Or.inl rfl, ⟨Or.inl rfl, ⟨Or.inl rfl, ⟨Or.inl rfl, ⟨Or.inr rfl, ⟨Or.inl rfl, ⟨Or.inl rfl, trivial⟩⟩⟩⟩⟩⟩⟩⟩⟩⟩⟩⟩⟩⟩⟩⟩⟩⟩⟩⟩⟩⟩⟩⟩⟩⟩⟩⟩⟩⟩⟩⟩⟩ ?_
      exact kk
    · refine z_iload rfl dL_law_1761 ?_
      refine z_if_eq 1859 (by decide) dL_law_1763 (fun h => absurd h (by decide)) (fun _ => ?_)
      obtain ⟨V0, hV0⟩ : ∃ V, V = zit (lpa c b X Y) f i ν := ⟨_, rfl⟩
      rw [← hV0]
      have h3 : V0 3 (10 * b + (f + i)) = ν 3 (10 * b + (f + i)) := by rw [hV0]; exact lpa_k ν (by omega) i (by omega)
      have hq := iP_kn hn5 (by omega) ((hK b hb).2.2.1 (f + i) (by omega))
      refine z_bipush (nI 10) (by decide) dL_law_1766 ?_
      refine z_iload rfl dL_law_1768 ?_
      refine m_mulN dL_law_1770 ?_
      refine z_iload rfl dL_law_1771 ?_
      refine m_addN dL_law_1773 ?_
      refine z_istore (by decide) rfl dL_law_1774 ?_
      refine z_bipush (nI 10) (by decide) dL_law_1776 ?_
      refine z_iload rfl dL_law_1778 ?_
      refine m_mulN dL_law_1780 ?_
      refine z_iload rfl dL_law_1781 ?_
      refine m_addN dL_law_1783 ?_
      refine z_istore (by decide) rfl dL_law_1784 ?_
      refine z_aload rfl dL_law_1786 ?_
      refine z_iload rfl dL_law_1788 ?_
      refine z_aload rfl dL_law_1790 ?_
      refine z_iload rfl dL_law_1792 ?_
      refine m_xald 3 ((10 * b) + (f + i)) 64 rfl (by decide) rfl (by omega) (by decide) dL_law_1794 ?_
      refine z_bipush (-2) (by decide) dL_law_1795 ?_
      refine z_icmp_ne 1805 (by decide) dL_law_1797 (fun h1797t => ?_) (fun h1797f => ?_)
      · refine z_iload rfl dL_law_1805 ?_
        refine m_eqv (w := if V0 3 ((10 * b) + (f + i)) = -2 then -2 else nI b) (by rw [if_neg h1797t]) ?_
        refine m_xast 3 ((10 * c) + (f + i)) 64 rfl (by decide) rfl (by omega) (by decide) dL_law_1807 ?_
        show zV true E kL_law 0 o 1808 (.ref (0) :: .ref (1) :: .ref (J 0) :: .ref (J 1) :: .ref (J 2) :: .ref (J 3) :: .ref (J 4) :: .ref (J 5) :: .ref (J 6) :: .ref (J 7) :: .ref (J 8) :: .int (nI at9) :: .ref (J 9) :: .ref (J 10) :: .int (nI nr) :: .int (nI nc) :: .int (nI ni) :: .int (nI tn) :: .int (z) :: .int (q) :: .int (nI kd) :: .int (nI c) :: .int (nI b) :: .int (nI f) :: .int (nI t) :: .null :: .int (X) :: .int (Y) :: .int (nI 1) :: .int (k9) :: .int (nI (f + i)) :: .int (nI ((10 * c) + (f + i))) :: .int (nI ((10 * b) + (f + i))) :: []) [] (zm μ (J, 11, (lpa1 c b (f + i) V0))) u us
        refine z_aload_n rfl rfl dL_law_1808 ?_
        refine z_iload rfl dL_law_1809 ?_
        refine z_aload_n rfl rfl dL_law_1811 ?_
        refine z_iload rfl dL_law_1812 ?_
        refine m_xald 0 ((10 * b) + (f + i)) 64 rfl (by decide) rfl (by omega) (by decide) dL_law_1814 ?_
        refine z_iload rfl dL_law_1815 ?_
        refine z_iadd dL_law_1817 ?_
        refine m_xast 0 ((10 * c) + (f + i)) 64 rfl (by decide) rfl (by omega) (by decide) dL_law_1818 ?_
        show zV true E kL_law 0 o 1819 (.ref (0) :: .ref (1) :: .ref (J 0) :: .ref (J 1) :: .ref (J 2) :: .ref (J 3) :: .ref (J 4) :: .ref (J 5) :: .ref (J 6) :: .ref (J 7) :: .ref (J 8) :: .int (nI at9) :: .ref (J 9) :: .ref (J 10) :: .int (nI nr) :: .int (nI nc) :: .int (nI ni) :: .int (nI tn) :: .int (z) :: .int (q) :: .int (nI kd) :: .int (nI c) :: .int (nI b) :: .int (nI f) :: .int (nI t) :: .null :: .int (X) :: .int (Y) :: .int (nI 1) :: .int (k9) :: .int (nI (f + i)) :: .int (nI ((10 * c) + (f + i))) :: .int (nI ((10 * b) + (f + i))) :: []) [] (zm μ (J, 11, (lpa2 c b X (f + i) (lpa1 c b (f + i) V0)))) u us
        refine z_aload_n rfl rfl dL_law_1819 ?_
        refine z_iload rfl dL_law_1820 ?_
        refine z_aload_n rfl rfl dL_law_1822 ?_
        refine z_iload rfl dL_law_1823 ?_
        refine m_xald 1 ((10 * b) + (f + i)) 64 rfl (by decide) rfl (by omega) (by decide) dL_law_1825 ?_
        refine z_iload rfl dL_law_1826 ?_
        refine z_iadd dL_law_1828 ?_
        refine m_xast 1 ((10 * c) + (f + i)) 64 rfl (by decide) rfl (by omega) (by decide) dL_law_1829 ?_
        show zV true E kL_law 0 o 1830 (.ref (0) :: .ref (1) :: .ref (J 0) :: .ref (J 1) :: .ref (J 2) :: .ref (J 3) :: .ref (J 4) :: .ref (J 5) :: .ref (J 6) :: .ref (J 7) :: .ref (J 8) :: .int (nI at9) :: .ref (J 9) :: .ref (J 10) :: .int (nI nr) :: .int (nI nc) :: .int (nI ni) :: .int (nI tn) :: .int (z) :: .int (q) :: .int (nI kd) :: .int (nI c) :: .int (nI b) :: .int (nI f) :: .int (nI t) :: .null :: .int (X) :: .int (Y) :: .int (nI 1) :: .int (k9) :: .int (nI (f + i)) :: .int (nI ((10 * c) + (f + i))) :: .int (nI ((10 * b) + (f + i))) :: []) [] (zm μ (J, 11, (lpa3 c b Y (f + i) (lpa2 c b X (f + i) (lpa1 c b (f + i) V0))))) u us
        refine z_aload rfl dL_law_1830 ?_
        refine z_iload rfl dL_law_1832 ?_
        refine z_aload rfl dL_law_1834 ?_
        refine z_iload rfl dL_law_1836 ?_
        refine m_xald 2 ((10 * b) + (f + i)) 64 rfl (by decide) rfl (by omega) (by decide) dL_law_1838 ?_
        refine m_xast 2 ((10 * c) + (f + i)) 64 rfl (by decide) rfl (by omega) (by decide) dL_law_1839 ?_
        show zV true E kL_law 0 o 1840 (.ref (0) :: .ref (1) :: .ref (J 0) :: .ref (J 1) :: .ref (J 2) :: .ref (J 3) :: .ref (J 4) :: .ref (J 5) :: .ref (J 6) :: .ref (J 7) :: .ref (J 8) :: .int (nI at9) :: .ref (J 9) :: .ref (J 10) :: .int (nI nr) :: .int (nI nc) :: .int (nI ni) :: .int (nI tn) :: .int (z) :: .int (q) :: .int (nI kd) :: .int (nI c) :: .int (nI b) :: .int (nI f) :: .int (nI t) :: .null :: .int (X) :: .int (Y) :: .int (nI 1) :: .int (k9) :: .int (nI (f + i)) :: .int (nI ((10 * c) + (f + i))) :: .int (nI ((10 * b) + (f + i))) :: []) [] (zm μ (J, 11, (lpa c b X Y (f + i) V0))) u us
        refine z_aload rfl dL_law_1840 ?_
        refine z_iload rfl dL_law_1842 ?_
        refine m_xald 3 ((10 * c) + (f + i)) 64 rfl (by decide) rfl (by omega) (by decide) dL_law_1844 ?_
        refine m_eqv (w := nI b) (lpa_v.2.2.2.trans (if_neg h1797t)) ?_
        refine z_bipush (-2) (by decide) dL_law_1845 ?_
        refine z_icmp_le 1853 (by decide) dL_law_1847 (fun h1847t => (((k_gt (nc := nc) (by omega) (Or.inr ⟨b, hb, rfl⟩)).1 h1847t : False)).elim) (fun h1847f => ?_)
        refine z_iinc (k9 + nI 1) rfl rfl (by decide) rfl dL_law_1850 ?_
        refine z_iinc (nI (f + i + 1)) rfl (zincN _ 1) (by decide) rfl dL_law_1853 ?_
        refine z_goto 1754 (by decide) dL_law_1856 ?_
        subst hV0
        refine z_fgt (.ref (0) :: .ref (1) :: .ref (J 0) :: .ref (J 1) :: .ref (J 2) :: .ref (J 3) :: .ref (J 4) :: .ref (J 5) :: .ref (J 6) :: .ref (J 7) :: .ref (J 8) :: .int (nI at9) :: .ref (J 9) :: .ref (J 10) :: .int (nI nr) :: .int (nI nc) :: .int (nI ni) :: .int (nI tn) :: .int (z) :: .int (q) :: .int (nI kd) :: .int (nI c) :: .int (nI b) :: .int (nI f) :: .int (nI t) :: .null :: .int (X) :: .int (Y) :: .int (nI 1) :: .int ((k9 + nI 1)) :: .int (nI (f + i + 1)) :: .null :: .null :: []) ⟨Or.inl rfl, ⟨Or.inl rfl, ⟨Or.inl rfl, ⟨Or.inl rfl, ⟨Or.inl rfl, ⟨Or.inl rfl, ⟨Or.inl rfl, ⟨Or.inl rfl, ⟨Or.inl rfl, ⟨Or.inl rfl, ⟨Or.inl rfl, ⟨Or.inl rfl, ⟨Or.inl rfl, ⟨Or.inl rfl, ⟨Or.inl rfl, ⟨Or.inl rfl, ⟨Or.inl rfl, ⟨Or.inl rfl, ⟨Or.inl rfl, ⟨Or.inl rfl, ⟨Or.inl rfl, ⟨Or.inl rfl, ⟨Or.inl rfl, ⟨Or.inl rfl, ⟨Or.inl rfl, ⟨Or.inl rfl, ⟨Or.inl rfl, ⟨Or.inl rfl, ⟨Or.inl rfl, ⟨Or.inl rfl, ⟨Or.inl rfl, ⟨Or.inr rfl, ⟨Or.inr rfl, trivial⟩⟩⟩⟩⟩⟩⟩⟩⟩⟩⟩⟩⟩⟩⟩⟩⟩⟩⟩⟩⟩⟩⟩⟩⟩⟩⟩⟩⟩⟩⟩⟩⟩ ?_
        show zV true E kL_law 0 o 1754 (.ref (0) :: .ref (1) :: .ref (J 0) :: .ref (J 1) :: .ref (J 2) :: .ref (J 3) :: .ref (J 4) :: .ref (J 5) :: .ref (J 6) :: .ref (J 7) :: .ref (J 8) :: .int (nI at9) :: .ref (J 9) :: .ref (J 10) :: .int (nI nr) :: .int (nI nc) :: .int (nI ni) :: .int (nI tn) :: .int (z) :: .int (q) :: .int (nI kd) :: .int (nI c) :: .int (nI b) :: .int (nI f) :: .int (nI t) :: .null :: .int (X) :: .int (Y) :: .int (nI 1) :: .int ((k9 + nI 1)) :: .int (nI (f + i + 1)) :: .null :: .null :: []) [] (zm μ (J, 11, (zit (lpa c b X Y) f (i + 1) ν))) u us
        exact ih (t + 1 - f - (i + 1)) (by omega) (i + 1) _ rfl (by omega) (by rw [zit_s, ← hk9, ckn, if_pos (hq.mpr (fun w => h1797t (h3.trans w)))]; rfl)
      · refine z_bipush (-2) (by decide) dL_law_1800 ?_
        refine z_goto 1807 (by decide) dL_law_1802 ?_
        refine m_eqv (w := if V0 3 ((10 * b) + (f + i)) = -2 then -2 else nI b) (by rw [if_pos h1797f]) ?_
        refine m_xast 3 ((10 * c) + (f + i)) 64 rfl (by decide) rfl (by omega) (by decide) dL_law_1807 ?_
        show zV true E kL_law 0 o 1808 (.ref (0) :: .ref (1) :: .ref (J 0) :: .ref (J 1) :: .ref (J 2) :: .ref (J 3) :: .ref (J 4) :: .ref (J 5) :: .ref (J 6) :: .ref (J 7) :: .ref (J 8) :: .int (nI at9) :: .ref (J 9) :: .ref (J 10) :: .int (nI nr) :: .int (nI nc) :: .int (nI ni) :: .int (nI tn) :: .int (z) :: .int (q) :: .int (nI kd) :: .int (nI c) :: .int (nI b) :: .int (nI f) :: .int (nI t) :: .null :: .int (X) :: .int (Y) :: .int (nI 1) :: .int (k9) :: .int (nI (f + i)) :: .int (nI ((10 * c) + (f + i))) :: .int (nI ((10 * b) + (f + i))) :: []) [] (zm μ (J, 11, (lpa1 c b (f + i) V0))) u us
        refine z_aload_n rfl rfl dL_law_1808 ?_
        refine z_iload rfl dL_law_1809 ?_
        refine z_aload_n rfl rfl dL_law_1811 ?_
        refine z_iload rfl dL_law_1812 ?_
        refine m_xald 0 ((10 * b) + (f + i)) 64 rfl (by decide) rfl (by omega) (by decide) dL_law_1814 ?_
        refine z_iload rfl dL_law_1815 ?_
        refine z_iadd dL_law_1817 ?_
        refine m_xast 0 ((10 * c) + (f + i)) 64 rfl (by decide) rfl (by omega) (by decide) dL_law_1818 ?_
        show zV true E kL_law 0 o 1819 (.ref (0) :: .ref (1) :: .ref (J 0) :: .ref (J 1) :: .ref (J 2) :: .ref (J 3) :: .ref (J 4) :: .ref (J 5) :: .ref (J 6) :: .ref (J 7) :: .ref (J 8) :: .int (nI at9) :: .ref (J 9) :: .ref (J 10) :: .int (nI nr) :: .int (nI nc) :: .int (nI ni) :: .int (nI tn) :: .int (z) :: .int (q) :: .int (nI kd) :: .int (nI c) :: .int (nI b) :: .int (nI f) :: .int (nI t) :: .null :: .int (X) :: .int (Y) :: .int (nI 1) :: .int (k9) :: .int (nI (f + i)) :: .int (nI ((10 * c) + (f + i))) :: .int (nI ((10 * b) + (f + i))) :: []) [] (zm μ (J, 11, (lpa2 c b X (f + i) (lpa1 c b (f + i) V0)))) u us
        refine z_aload_n rfl rfl dL_law_1819 ?_
        refine z_iload rfl dL_law_1820 ?_
        refine z_aload_n rfl rfl dL_law_1822 ?_
        refine z_iload rfl dL_law_1823 ?_
        refine m_xald 1 ((10 * b) + (f + i)) 64 rfl (by decide) rfl (by omega) (by decide) dL_law_1825 ?_
        refine z_iload rfl dL_law_1826 ?_
        refine z_iadd dL_law_1828 ?_
        refine m_xast 1 ((10 * c) + (f + i)) 64 rfl (by decide) rfl (by omega) (by decide) dL_law_1829 ?_
        show zV true E kL_law 0 o 1830 (.ref (0) :: .ref (1) :: .ref (J 0) :: .ref (J 1) :: .ref (J 2) :: .ref (J 3) :: .ref (J 4) :: .ref (J 5) :: .ref (J 6) :: .ref (J 7) :: .ref (J 8) :: .int (nI at9) :: .ref (J 9) :: .ref (J 10) :: .int (nI nr) :: .int (nI nc) :: .int (nI ni) :: .int (nI tn) :: .int (z) :: .int (q) :: .int (nI kd) :: .int (nI c) :: .int (nI b) :: .int (nI f) :: .int (nI t) :: .null :: .int (X) :: .int (Y) :: .int (nI 1) :: .int (k9) :: .int (nI (f + i)) :: .int (nI ((10 * c) + (f + i))) :: .int (nI ((10 * b) + (f + i))) :: []) [] (zm μ (J, 11, (lpa3 c b Y (f + i) (lpa2 c b X (f + i) (lpa1 c b (f + i) V0))))) u us
        refine z_aload rfl dL_law_1830 ?_
        refine z_iload rfl dL_law_1832 ?_
        refine z_aload rfl dL_law_1834 ?_
        refine z_iload rfl dL_law_1836 ?_
        refine m_xald 2 ((10 * b) + (f + i)) 64 rfl (by decide) rfl (by omega) (by decide) dL_law_1838 ?_
        refine m_xast 2 ((10 * c) + (f + i)) 64 rfl (by decide) rfl (by omega) (by decide) dL_law_1839 ?_
        show zV true E kL_law 0 o 1840 (.ref (0) :: .ref (1) :: .ref (J 0) :: .ref (J 1) :: .ref (J 2) :: .ref (J 3) :: .ref (J 4) :: .ref (J 5) :: .ref (J 6) :: .ref (J 7) :: .ref (J 8) :: .int (nI at9) :: .ref (J 9) :: .ref (J 10) :: .int (nI nr) :: .int (nI nc) :: .int (nI ni) :: .int (nI tn) :: .int (z) :: .int (q) :: .int (nI kd) :: .int (nI c) :: .int (nI b) :: .int (nI f) :: .int (nI t) :: .null :: .int (X) :: .int (Y) :: .int (nI 1) :: .int (k9) :: .int (nI (f + i)) :: .int (nI ((10 * c) + (f + i))) :: .int (nI ((10 * b) + (f + i))) :: []) [] (zm μ (J, 11, (lpa c b X Y (f + i) V0))) u us
        refine z_aload rfl dL_law_1840 ?_
        refine z_iload rfl dL_law_1842 ?_
        refine m_xald 3 ((10 * c) + (f + i)) 64 rfl (by decide) rfl (by omega) (by decide) dL_law_1844 ?_
        refine m_eqv (w := -2) (lpa_v.2.2.2.trans (if_pos h1797f)) ?_
        refine z_bipush (-2) (by decide) dL_law_1845 ?_
        refine z_icmp_le 1853 (by decide) dL_law_1847 (fun _ => ?_) (fun h => absurd h (by decide))
        refine z_iinc (nI (f + i + 1)) rfl (zincN _ 1) (by decide) rfl dL_law_1853 ?_
        refine z_goto 1754 (by decide) dL_law_1856 ?_
        subst hV0
        refine z_fgt (.ref (0) :: .ref (1) :: .ref (J 0) :: .ref (J 1) :: .ref (J 2) :: .ref (J 3) :: .ref (J 4) :: .ref (J 5) :: .ref (J 6) :: .ref (J 7) :: .ref (J 8) :: .int (nI at9) :: .ref (J 9) :: .ref (J 10) :: .int (nI nr) :: .int (nI nc) :: .int (nI ni) :: .int (nI tn) :: .int (z) :: .int (q) :: .int (nI kd) :: .int (nI c) :: .int (nI b) :: .int (nI f) :: .int (nI t) :: .null :: .int (X) :: .int (Y) :: .int (nI 1) :: .int (k9) :: .int (nI (f + i + 1)) :: .null :: .null :: []) ⟨Or.inl rfl, ⟨Or.inl rfl, ⟨Or.inl rfl, ⟨Or.inl rfl, ⟨Or.inl rfl, ⟨Or.inl rfl, ⟨Or.inl rfl, ⟨Or.inl rfl, ⟨Or.inl rfl, ⟨Or.inl rfl, ⟨Or.inl rfl, ⟨Or.inl rfl, ⟨Or.inl rfl, ⟨Or.inl rfl, ⟨Or.inl rfl, ⟨Or.inl rfl, ⟨Or.inl rfl, ⟨Or.inl rfl, ⟨Or.inl rfl, ⟨Or.inl rfl, ⟨Or.inl rfl, ⟨Or.inl rfl, ⟨Or.inl rfl, ⟨Or.inl rfl, ⟨Or.inl rfl, ⟨Or.inl rfl, ⟨Or.inl rfl, ⟨Or.inl rfl, ⟨Or.inl rfl, ⟨Or.inl rfl, ⟨Or.inl rfl, ⟨Or.inr rfl, ⟨Or.inr rfl, trivial⟩⟩⟩⟩⟩⟩⟩⟩⟩⟩⟩⟩⟩⟩⟩⟩⟩⟩⟩⟩⟩⟩⟩⟩⟩⟩⟩⟩⟩⟩⟩⟩⟩ ?_
        show zV true E kL_law 0 o 1754 (.ref (0) :: .ref (1) :: .ref (J 0) :: .ref (J 1) :: .ref (J 2) :: .ref (J 3) :: .ref (J 4) :: .ref (J 5) :: .ref (J 6) :: .ref (J 7) :: .ref (J 8) :: .int (nI at9) :: .ref (J 9) :: .ref (J 10) :: .int (nI nr) :: .int (nI nc) :: .int (nI ni) :: .int (nI tn) :: .int (z) :: .int (q) :: .int (nI kd) :: .int (nI c) :: .int (nI b) :: .int (nI f) :: .int (nI t) :: .null :: .int (X) :: .int (Y) :: .int (nI 1) :: .int (k9) :: .int (nI (f + i + 1)) :: .null :: .null :: []) [] (zm μ (J, 11, (zit (lpa c b X Y) f (i + 1) ν))) u us
        exact ih (t + 1 - f - (i + 1)) (by omega) (i + 1) _ rfl (by omega) (by rw [zit_s, ← hk9, ckn, if_neg (fun w => hq.mp w (h3.symm.trans h1797f))])
set_option maxRecDepth 100000 in
set_option maxHeartbeats 4000000 in
theorem sc_paste {E : Nat × (Nat → Int32)} (hE : E.1 ≤ 260) {o : zO} {J : Nat → Nat} {μ ν : zMu} {nc nr ni : Nat} {rf rt : Nat → Nat} (hI : iv μ ν nc nr ni rf rt) {at9 tn kd c : Nat} (hc : c < nc) {z q : Int32} {u us : Nat} (hu : u ≤ 70000) (hus : us ≤ 64 * u) (kk : ∀ (μ2 ν2 : zMu) (nc2 ni2 u2 us2 : Nat), iv μ2 ν2 nc2 nr ni2 rf rt → u2 ≤ u + 200 → us2 ≤ 64 * u2 → zV true E kL_law 0 o 2482 (.ref (0) :: .ref (1) :: .ref (J 0) :: .ref (J 1) :: .ref (J 2) :: .ref (J 3) :: .ref (J 4) :: .ref (J 5) :: .ref (J 6) :: .ref (J 7) :: .ref (J 8) :: .int (nI at9) :: .ref (J 9) :: .ref (J 10) :: .int (nI nr) :: .int (nI nc2) :: .int (nI ni2) :: .int (nI tn) :: .null :: .null :: .null :: .null :: .null :: .null :: .null :: .null :: .null :: .null :: .null :: .null :: .null :: .null :: .null :: []) [] (zm μ2 (J, 11, ν2)) u2 us2) (h1 : 1 < nc) : zV true E kL_law 0 o 1409 (.ref (0) :: .ref (1) :: .ref (J 0) :: .ref (J 1) :: .ref (J 2) :: .ref (J 3) :: .ref (J 4) :: .ref (J 5) :: .ref (J 6) :: .ref (J 7) :: .ref (J 8) :: .int (nI at9) :: .ref (J 9) :: .ref (J 10) :: .int (nI nr) :: .int (nI nc) :: .int (nI ni) :: .int (nI tn) :: .int (z) :: .int (q) :: .int (nI kd) :: .int (nI c) :: .null :: .null :: .null :: .null :: .null :: .null :: .null :: .null :: .null :: .null :: .null :: []) [] (zm μ (J, 11, ν)) u us := by
  obtain ⟨⟨⟨hnc, hn5⟩, ⟨hnr, h6, h13⟩, ⟨hni, hn4⟩⟩, hT, hL, hY, hB, hK, hA⟩ := id hI
  have hn12 : nc ≤ 12 := by omega
  refine z_iload rfl dL_law_1409 ?_
  refine z_iconst (nI 1) (by decide) dL_law_1411 ?_
  refine m_addN dL_law_1412 ?_
  refine z_iload rfl dL_law_1413 ?_
  refine z_iload rfl dL_law_1415 ?_
  refine z_iconst (nI 1) (by decide) dL_law_1417 ?_
  refine m_subN (by omega) dL_law_1418 ?_
  obtain ⟨k1419, hk1419, hl1419⟩ := ct_L_low (E := E) (μ := μ) (J := J) (m := 11) (ν := ν) (q) (n := nc - 1) (by omega) (by omega)
  refine z_callS (as := [.int (q), .int (nI (nc - 1))]) hl1419 ko_L_low kl_L_57 rfl rfl ⟨by decide, by decide, by show u + 0 ≤ 600086; omega, by show us + 0 ≤ 7301442; omega⟩ (Nat.le_of_ble_eq_true rfl) rfl dL_law_1419 ?_
  show zV true E kL_law 0 o 1422 (.ref (0) :: .ref (1) :: .ref (J 0) :: .ref (J 1) :: .ref (J 2) :: .ref (J 3) :: .ref (J 4) :: .ref (J 5) :: .ref (J 6) :: .ref (J 7) :: .ref (J 8) :: .int (nI at9) :: .ref (J 9) :: .ref (J 10) :: .int (nI nr) :: .int (nI nc) :: .int (nI ni) :: .int (nI tn) :: .int (z) :: .int (q) :: .int (nI kd) :: .int (nI c) :: .null :: .null :: .null :: .null :: .null :: .null :: .null :: .null :: .null :: .null :: .null :: []) [.int (nI k1419), .int (nI (c + 1))] (zm μ (J, 11, ν)) (u + 0) (us + 0)
  refine m_addN dL_law_1422 ?_
  refine z_iload rfl dL_law_1423 ?_
  refine m_remN (by omega) (by omega) (by omega) dL_law_1425 ?_
  obtain ⟨b, eb⟩ : ∃ b, b = ((c + 1) + k1419) % nc := ⟨_, rfl⟩
  refine m_eqv (w := nI b) (by rw [eb]) ?_
  obtain ⟨hb, hcb'⟩ : b < nc ∧ ¬ b = c := by rw [eb]; exact mod_ne hc (by omega)
  have hcb : ¬ c = b := fun w => hcb' w.symm
  refine z_istore (by decide) rfl dL_law_1426 ?_
  refine z_iload rfl dL_law_1428 ?_
  refine z_iconst (nI 3) (by decide) dL_law_1430 ?_
  refine z_ishr dL_law_1431 ?_
  refine z_bipush (nI 10) (by decide) dL_law_1432 ?_
  obtain ⟨k1434, hk1434, hl1434⟩ := ct_L_low (E := E) (μ := μ) (J := J) (m := 11) (ν := ν) (q >>> ((nI 3) &&& 31)) (n := 10) (by omega) (by omega)
  refine z_callS (as := [.int (q >>> ((nI 3) &&& 31)), .int (nI 10)]) hl1434 ko_L_low kl_L_57 rfl rfl ⟨by decide, by decide, by show u + 0 + 0 ≤ 600086; omega, by show us + 0 + 0 ≤ 7301442; omega⟩ (Nat.le_of_ble_eq_true rfl) rfl dL_law_1434 ?_
  show zV true E kL_law 0 o 1437 (.ref (0) :: .ref (1) :: .ref (J 0) :: .ref (J 1) :: .ref (J 2) :: .ref (J 3) :: .ref (J 4) :: .ref (J 5) :: .ref (J 6) :: .ref (J 7) :: .ref (J 8) :: .int (nI at9) :: .ref (J 9) :: .ref (J 10) :: .int (nI nr) :: .int (nI nc) :: .int (nI ni) :: .int (nI tn) :: .int (z) :: .int (q) :: .int (nI kd) :: .int (nI c) :: .int (nI b) :: .null :: .null :: .null :: .null :: .null :: .null :: .null :: .null :: .null :: .null :: []) [.int (nI k1434)] (zm μ (J, 11, ν)) (u + 0 + 0) (us + 0 + 0)
  refine z_istore (by decide) rfl dL_law_1437 ?_
  refine z_iload rfl dL_law_1439 ?_
  refine z_iload rfl dL_law_1441 ?_
  refine z_bipush (nI 7) (by decide) dL_law_1443 ?_
  refine z_ishr dL_law_1445 ?_
  refine z_bipush (nI 10) (by decide) dL_law_1446 ?_
  refine z_iload rfl dL_law_1448 ?_
  refine m_subN (by omega) dL_law_1450 ?_
  obtain ⟨k1451, hk1451, hl1451⟩ := ct_L_low (E := E) (μ := μ) (J := J) (m := 11) (ν := ν) (q >>> ((nI 7) &&& 31)) (n := 10 - k1434) (by omega) (by omega)
  refine z_callS (as := [.int (q >>> ((nI 7) &&& 31)), .int (nI (10 - k1434))]) hl1451 ko_L_low kl_L_57 rfl rfl ⟨by decide, by decide, by show u + 0 + 0 + 0 ≤ 600086; omega, by show us + 0 + 0 + 0 ≤ 7301442; omega⟩ (Nat.le_of_ble_eq_true rfl) rfl dL_law_1451 ?_
  show zV true E kL_law 0 o 1454 (.ref (0) :: .ref (1) :: .ref (J 0) :: .ref (J 1) :: .ref (J 2) :: .ref (J 3) :: .ref (J 4) :: .ref (J 5) :: .ref (J 6) :: .ref (J 7) :: .ref (J 8) :: .int (nI at9) :: .ref (J 9) :: .ref (J 10) :: .int (nI nr) :: .int (nI nc) :: .int (nI ni) :: .int (nI tn) :: .int (z) :: .int (q) :: .int (nI kd) :: .int (nI c) :: .int (nI b) :: .int (nI k1434) :: .null :: .null :: .null :: .null :: .null :: .null :: .null :: .null :: .null :: []) [.int (nI k1451), .int (nI k1434)] (zm μ (J, 11, ν)) (u + 0 + 0 + 0) (us + 0 + 0 + 0)
  refine m_addN dL_law_1454 ?_
  refine z_istore (by decide) rfl dL_law_1455 ?_
  obtain ⟨f, ef⟩ : ∃ f, f = k1434 := ⟨_, rfl⟩
  obtain ⟨t, et⟩ : ∃ t, t = k1434 + k1451 := ⟨_, rfl⟩
  refine z_lseq (ls1 := (.ref (0) :: .ref (1) :: .ref (J 0) :: .ref (J 1) :: .ref (J 2) :: .ref (J 3) :: .ref (J 4) :: .ref (J 5) :: .ref (J 6) :: .ref (J 7) :: .ref (J 8) :: .int (nI at9) :: .ref (J 9) :: .ref (J 10) :: .int (nI nr) :: .int (nI nc) :: .int (nI ni) :: .int (nI tn) :: .int (z) :: .int (q) :: .int (nI kd) :: .int (nI c) :: .int (nI b) :: .int (nI f) :: .int (nI t) :: .null :: .null :: .null :: .null :: .null :: .null :: .null :: .null :: [])) (by rw [ef, et]; rfl) ?_
  have hft : f ≤ t := by omega
  have ht : t < 10 := by omega
  obtain ⟨X, hX⟩ : ∃ X, X = cmv μ c b f 34 := ⟨_, rfl⟩
  obtain ⟨Y, hY⟩ : ∃ Y, Y = cmv μ c b f 35 := ⟨_, rfl⟩
  have hPc := (hK c hc).2.2.1 f (by omega)
  have hPb := (hK b hb).2.2.1 f (by omega)
  have hqc := iP_kn hn5 (by omega) hPc
  have hqb := iP_kn hn5 (by omega) hPb
  have hlc := iP_le hn5 hPc
  have hlb := iP_le hn5 hPb
  obtain ⟨rX, rY⟩ := cmv_rb (by omega) (by omega) hPc hPb
  rw [← hX] at rX
  rw [← hY] at rY
  have sec : zV true E kL_law 0 o 1560 (.ref (0) :: .ref (1) :: .ref (J 0) :: .ref (J 1) :: .ref (J 2) :: .ref (J 3) :: .ref (J 4) :: .ref (J 5) :: .ref (J 6) :: .ref (J 7) :: .ref (J 8) :: .int (nI at9) :: .ref (J 9) :: .ref (J 10) :: .int (nI nr) :: .int (nI nc) :: .int (nI ni) :: .int (nI tn) :: .int (z) :: .int (q) :: .int (nI kd) :: .int (nI c) :: .int (nI b) :: .int (nI f) :: .int (nI t) :: .null :: .int (X) :: .int (Y) :: .null :: .null :: .null :: .null :: .null :: []) [] (zm μ (J, 11, ν)) (u + 0 + 0 + 0) (us + 0 + 0 + 0) := by
    obtain ⟨⟨yb1, yb, yb3, yb4, yb2⟩, -⟩ := hK b hb
    obtain ⟨⟨yc1, yc, yc3, yc4, yc2⟩, -⟩ := hK c hc
    have sec2 : ∀ g1, sB g1 (μ (33 + 7 * b) 0 ≤ μ (33 + 7 * c) 0) → zV true E kL_law 0 o 1584 (.ref (0) :: .ref (1) :: .ref (J 0) :: .ref (J 1) :: .ref (J 2) :: .ref (J 3) :: .ref (J 4) :: .ref (J 5) :: .ref (J 6) :: .ref (J 7) :: .ref (J 8) :: .int (nI at9) :: .ref (J 9) :: .ref (J 10) :: .int (nI nr) :: .int (nI nc) :: .int (nI ni) :: .int (nI tn) :: .int (z) :: .int (q) :: .int (nI kd) :: .int (nI c) :: .int (nI b) :: .int (nI f) :: .int (nI t) :: .null :: .int (X) :: .int (Y) :: .int (nI g1) :: .int (nI f) :: .null :: .null :: .null :: []) [] (zm μ (J, 11, ν)) (u + 0 + 0 + 0) (us + 0 + 0 + 0) := by
      intro g1 hg
      refine lp_O hE hI hc hb hcb hft ht (by omega) (by omega) rX rY (YR := (μ (33 + 7 * b) 0 ≤ μ (33 + 7 * c) 0)) (fun g1 hg => ?_) _ 0 g1 rfl (by omega) (sB_c ⟨fun w => ⟨w, fun j hj => absurd hj (Nat.not_lt_zero j)⟩, And.left⟩ hg)
      rcases hg with ⟨rfl, hP⟩ | ⟨rfl, hP⟩
      · refine z_iconst (nI 0) (by decide) dL_law_1747 ?_
        refine z_istore (by decide) rfl dL_law_1748 ?_
        refine z_iload rfl dL_law_1750 ?_
        refine z_istore (by decide) rfl dL_law_1752 ?_
        refine lp_W hE hI hc hb hcb hft ht (by omega) (by omega) ?_ _ 0 (nI 0) rfl (by omega) rfl
        refine z_aload_n rfl rfl dL_law_1859 ?_
        refine z_iload rfl dL_law_1860 ?_
        refine z_iload rfl dL_law_1862 ?_
        refine z_iload rfl dL_law_1864 ?_
        refine z_iload rfl dL_law_1866 ?_
        have hcp : zCt E kX7_paste [.ref 1, .int (nI c), .int (nI b), .int (nI f), .int (nI t)] (zm μ (J, 11, zit (lpa c b X Y) f (t + 1 - f) ν)) (.inl (some (.int (zit (ckn μ b) f (t + 1 - f) (nI 0)))), zm (zit (cpa c b X Y) f (t + 1 - f) μ) (J, 11, zit (lpa c b X Y) f (t + 1 - f) ν)) := by
          have h := ct_X7_paste (E := E) (μ := μ) (g := (J, 11, zit (lpa c b X Y) f (t + 1 - f) ν)) hnc hn12 (a := c) (b := b) (f := f) (t := t) hc hb (by omega) (by omega)
          rw [if_neg (fun q => q ⟨hcb, hft⟩), ← hX, ← hY] at h
          rw [if_neg (fun q => q hP.1), if_neg (fun q => q (zB_0.mpr (fun ⟨i, hi, w⟩ => (hP.2 i hi).1 w))), if_neg (zB_n.mpr (fun i hi => (hP.2 i hi).2)), paste_cnt hcb (fun i hi => (hP.2 i hi).2)] at h
          exact h
        refine z_callSX (as := [.ref (1), .int (nI c), .int (nI b), .int (nI f), .int (nI t)]) (ct_L_pasted hcp) ko_L_pasted kl_L_80 rfl rfl ⟨by decide, by decide, by show u + 0 + 0 + 0 + 5 ≤ 600086; omega, by show us + 0 + 0 + 0 + 30 ≤ 7301442; omega⟩ (Nat.le_of_ble_eq_true rfl) rfl dL_law_1868 ?_
        show zV true E kL_law 0 o 1871 (.ref (0) :: .ref (1) :: .ref (J 0) :: .ref (J 1) :: .ref (J 2) :: .ref (J 3) :: .ref (J 4) :: .ref (J 5) :: .ref (J 6) :: .ref (J 7) :: .ref (J 8) :: .int (nI at9) :: .ref (J 9) :: .ref (J 10) :: .int (nI nr) :: .int (nI nc) :: .int (nI ni) :: .int (nI tn) :: .int (z) :: .int (q) :: .int (nI kd) :: .int (nI c) :: .int (nI b) :: .int (nI f) :: .int (nI t) :: .null :: .int (X) :: .int (Y) :: .int (nI 1) :: .int (zit (ckn μ b) f (t + 1 - f) (nI 0)) :: .null :: .null :: .null :: []) [.int (zit (ckn μ b) f (t + 1 - f) (nI 0))] (zm (zit (cpa c b X Y) f (t + 1 - f) μ) (J, 11, (zit (lpa c b X Y) f (t + 1 - f) ν))) (u + 0 + 0 + 0 + 5) (us + 0 + 0 + 0 + 30)
        refine z_iload rfl dL_law_1871 ?_
        refine z_if_eq 1881 (by decide) dL_law_1873 (fun h => absurd h (by decide)) (fun _ => ?_)
        refine z_iload rfl dL_law_1876 ?_
        refine z_goto 1882 (by decide) dL_law_1878 ?_
        refine z_icmp_eq 1887 (by decide) dL_law_1882 (fun _ => ?_) (fun h => absurd rfl h)
        refine z_goto 2482 (by decide) dL_law_1887 ?_
        refine z_fgt (.ref (0) :: .ref (1) :: .ref (J 0) :: .ref (J 1) :: .ref (J 2) :: .ref (J 3) :: .ref (J 4) :: .ref (J 5) :: .ref (J 6) :: .ref (J 7) :: .ref (J 8) :: .int (nI at9) :: .ref (J 9) :: .ref (J 10) :: .int (nI nr) :: .int (nI nc) :: .int (nI ni) :: .int (nI tn) :: .null :: .null :: .null :: .null :: .null :: .null :: .null :: .null :: .null :: .null :: .null :: .null :: .null :: .null :: .null :: []) ⟨Or.inl rfl, ⟨Or.inl rfl, ⟨Or.inl rfl, ⟨Or.inl rfl, ⟨Or.inl rfl, ⟨Or.inl rfl, ⟨Or.inl rfl, ⟨Or.inl rfl, ⟨Or.inl rfl, ⟨Or.inl rfl, ⟨Or.inl rfl, ⟨Or.inl rfl, ⟨Or.inl rfl, ⟨Or.inl rfl, ⟨Or.inl rfl, ⟨Or.inl rfl, ⟨Or.inl rfl, ⟨Or.inl rfl, ⟨Or.inr rfl, ⟨Or.inr rfl, ⟨Or.inr rfl, ⟨Or.inr rfl, ⟨Or.inr rfl, ⟨Or.inr rfl, ⟨Or.inr rfl, ⟨Or.inl rfl, ⟨Or.inr rfl, ⟨Or.inr rfl, ⟨Or.inr rfl, ⟨Or.inr rfl, ⟨Or.inl rfl, ⟨Or.inl rfl, ⟨Or.inl rfl, trivial⟩⟩⟩⟩⟩⟩⟩⟩⟩⟩⟩⟩⟩⟩⟩⟩⟩⟩⟩⟩⟩⟩⟩⟩⟩⟩⟩⟩⟩⟩⟩⟩⟩ ?_
        exact kk _ _ _ _ _ _ (v_paste hI hc hb hcb (by omega) hP.2) (by show u + 0 + 0 + 0 + 5 ≤ _; omega) (by show us + 0 + 0 + 0 + 30 ≤ 64 * (u + 0 + 0 + 0 + 5); omega)
      · refine z_iconst (nI 0) (by decide) dL_law_1747 ?_
        refine z_istore (by decide) rfl dL_law_1748 ?_
        refine z_iload rfl dL_law_1750 ?_
        refine z_istore (by decide) rfl dL_law_1752 ?_
        refine z_iload rfl dL_law_1754 ?_
        refine z_iload rfl dL_law_1756 ?_
        refine z_icmp_gt 1859 (by decide) dL_law_1758 (fun h1758t => ((by have w := (nI_ltI (a := t) (b := f) (by omega) (by omega)).mp h1758t; omega : False)).elim) (fun h1758f => ?_)
        refine z_iload rfl dL_law_1761 ?_
        refine z_if_eq 1859 (by decide) dL_law_1763 (fun _ => ?_) (fun h => absurd h (by decide))
        refine z_aload_n rfl rfl dL_law_1859 ?_
        refine z_iload rfl dL_law_1860 ?_
        refine z_iload rfl dL_law_1862 ?_
        refine z_iload rfl dL_law_1864 ?_
        refine z_iload rfl dL_law_1866 ?_
        have hcp : zCt E kX7_paste [.ref 1, .int (nI c), .int (nI b), .int (nI f), .int (nI t)] (zm μ (J, 11, ν)) (.inr xS, zm μ (J, 11, ν)) := by
          have h := ct_X7_paste (E := E) (μ := μ) (g := (J, 11, ν)) hnc hn12 (a := c) (b := b) (f := f) (t := t) hc hb (by omega) (by omega)
          rw [if_neg (fun q => q ⟨hcb, hft⟩), ← hX, ← hY] at h
          by_cases w1 : (μ (33 + 7 * b) 0 ≤ μ (33 + 7 * c) 0)
          · rw [if_neg (fun q => q w1)] at h
            by_cases w2 : zlb μ nc (nI c) b f (t + 1 - f)
            · rw [if_pos (fun q => zB_0.mp q w2)] at h
              exact h
            · rw [if_neg (fun q => q (zB_0.mpr w2)), if_pos (zB_0.mpr (fun w => hP ⟨w1, fun i hi => ⟨fun z => w2 ⟨i, hi, z⟩, w i hi⟩⟩))] at h
              exact h
          · rw [if_pos w1] at h
            exact h
        refine z_callSX (as := [.ref (1), .int (nI c), .int (nI b), .int (nI f), .int (nI t)]) (ctx_L_pasted hcp) ko_L_pasted kl_L_80 rfl rfl ⟨by decide, by decide, by show u + 0 + 0 + 0 + 5 ≤ 600086; omega, by show us + 0 + 0 + 0 + 30 ≤ 7301442; omega⟩ (Nat.le_of_ble_eq_true rfl) rfl dL_law_1868 ?_
        show zV true E kL_law 0 o 1871 (.ref (0) :: .ref (1) :: .ref (J 0) :: .ref (J 1) :: .ref (J 2) :: .ref (J 3) :: .ref (J 4) :: .ref (J 5) :: .ref (J 6) :: .ref (J 7) :: .ref (J 8) :: .int (nI at9) :: .ref (J 9) :: .ref (J 10) :: .int (nI nr) :: .int (nI nc) :: .int (nI ni) :: .int (nI tn) :: .int (z) :: .int (q) :: .int (nI kd) :: .int (nI c) :: .int (nI b) :: .int (nI f) :: .int (nI t) :: .null :: .int (X) :: .int (Y) :: .int (nI 0) :: .int (nI 0) :: .int (nI f) :: .null :: .null :: []) [.int (-1)] (zm μ (J, 11, ν)) (u + 0 + 0 + 0 + 5) (us + 0 + 0 + 0 + 30)
        refine z_iload rfl dL_law_1871 ?_
        refine z_if_eq 1881 (by decide) dL_law_1873 (fun _ => ?_) (fun h => absurd h (by decide))
        refine z_iconst (-1) (by decide) dL_law_1881 ?_
        refine z_icmp_eq 1887 (by decide) dL_law_1882 (fun _ => ?_) (fun h => absurd h (by decide))
        refine z_goto 2482 (by decide) dL_law_1887 ?_
        refine z_fgt (.ref (0) :: .ref (1) :: .ref (J 0) :: .ref (J 1) :: .ref (J 2) :: .ref (J 3) :: .ref (J 4) :: .ref (J 5) :: .ref (J 6) :: .ref (J 7) :: .ref (J 8) :: .int (nI at9) :: .ref (J 9) :: .ref (J 10) :: .int (nI nr) :: .int (nI nc) :: .int (nI ni) :: .int (nI tn) :: .null :: .null :: .null :: .null :: .null :: .null :: .null :: .null :: .null :: .null :: .null :: .null :: .null :: .null :: .null :: []) ⟨Or.inl rfl, ⟨Or.inl rfl, ⟨Or.inl rfl, ⟨Or.inl rfl, ⟨Or.inl rfl, ⟨Or.inl rfl, ⟨Or.inl rfl, ⟨Or.inl rfl, ⟨Or.inl rfl, ⟨Or.inl rfl, ⟨Or.inl rfl, ⟨Or.inl rfl, ⟨Or.inl rfl, ⟨Or.inl rfl, ⟨Or.inl rfl, ⟨Or.inl rfl, ⟨Or.inl rfl, ⟨Or.inl rfl, ⟨Or.inr rfl, ⟨Or.inr rfl, ⟨Or.inr rfl, ⟨Or.inr rfl, ⟨Or.inr rfl, ⟨Or.inr rfl, ⟨Or.inr rfl, ⟨Or.inl rfl, ⟨Or.inr rfl, ⟨Or.inr rfl, ⟨Or.inr rfl, ⟨Or.inr rfl, ⟨Or.inr rfl, ⟨Or.inl rfl, ⟨Or.inl rfl, trivial⟩⟩⟩⟩⟩⟩⟩⟩⟩⟩⟩⟩⟩⟩⟩⟩⟩⟩⟩⟩⟩⟩⟩⟩⟩⟩⟩⟩⟩⟩⟩⟩⟩ ?_
        exact kk _ _ _ _ _ _ (hI) (by show u + 0 + 0 + 0 + 5 ≤ _; omega) (by show us + 0 + 0 + 0 + 30 ≤ 64 * (u + 0 + 0 + 0 + 5); omega)
    refine z_aload rfl dL_law_1560 ?_
    refine z_iload rfl dL_law_1562 ?_
    refine m_xald 6 (b) 8 rfl (by decide) rfl (by omega) (by decide) dL_law_1564 ?_
    refine m_eqv (w := nI yb) yb2 ?_
    refine z_aload rfl dL_law_1565 ?_
    refine z_iload rfl dL_law_1567 ?_
    refine m_xald 6 (c) 8 rfl (by decide) rfl (by omega) (by decide) dL_law_1569 ?_
    refine m_eqv (w := nI yc) yc2 ?_
    refine z_icmp_gt 1577 (by decide) dL_law_1570 (z_br (zcn (n := yc) (by omega) (yb) (by omega)).2.1 (fun h1570t => ?_)) (z_brn (zcn (n := yc) (by omega) (yb) (by omega)).2.1 (fun h1570f => ?_))
    · refine z_iconst (nI 0) (by decide) dL_law_1577 ?_
      refine z_istore (by decide) rfl dL_law_1578 ?_
      refine z_iload rfl dL_law_1580 ?_
      refine z_istore (by decide) rfl dL_law_1582 ?_
      refine z_fgt (.ref (0) :: .ref (1) :: .ref (J 0) :: .ref (J 1) :: .ref (J 2) :: .ref (J 3) :: .ref (J 4) :: .ref (J 5) :: .ref (J 6) :: .ref (J 7) :: .ref (J 8) :: .int (nI at9) :: .ref (J 9) :: .ref (J 10) :: .int (nI nr) :: .int (nI nc) :: .int (nI ni) :: .int (nI tn) :: .int (z) :: .int (q) :: .int (nI kd) :: .int (nI c) :: .int (nI b) :: .int (nI f) :: .int (nI t) :: .null :: .int (X) :: .int (Y) :: .int (nI 0) :: .int (nI f) :: .null :: .null :: .null :: []) ⟨Or.inl rfl, ⟨Or.inl rfl, ⟨Or.inl rfl, ⟨Or.inl rfl, ⟨Or.inl rfl, ⟨Or.inl rfl, ⟨Or.inl rfl, ⟨Or.inl rfl, ⟨Or.inl rfl, ⟨Or.inl rfl, ⟨Or.inl rfl, ⟨Or.inl rfl, ⟨Or.inl rfl, ⟨Or.inl rfl, ⟨Or.inl rfl, ⟨Or.inl rfl, ⟨Or.inl rfl, ⟨Or.inl rfl, ⟨Or.inl rfl, ⟨Or.inl rfl, ⟨Or.inl rfl, ⟨Or.inl rfl, ⟨Or.inl rfl, ⟨Or.inl rfl, ⟨Or.inl rfl, ⟨Or.inl rfl, ⟨Or.inl rfl, ⟨Or.inl rfl, ⟨Or.inl rfl, ⟨Or.inl rfl, ⟨Or.inl rfl, ⟨Or.inl rfl, ⟨Or.inl rfl, trivial⟩⟩⟩⟩⟩⟩⟩⟩⟩⟩⟩⟩⟩⟩⟩⟩⟩⟩⟩⟩⟩⟩⟩⟩⟩⟩⟩⟩⟩⟩⟩⟩⟩ ?_
      exact sec2 0 (Or.inr ⟨rfl, fun w => by rw [yb1, yc1, yb2, yc2] at w; have w2 := (nI_leI (a := yb) (b := yc) (by omega) (by omega)).mp w; omega⟩)
    · refine z_iconst (nI 1) (by decide) dL_law_1573 ?_
      refine z_goto 1578 (by decide) dL_law_1574 ?_
      refine z_istore (by decide) rfl dL_law_1578 ?_
      refine z_iload rfl dL_law_1580 ?_
      refine z_istore (by decide) rfl dL_law_1582 ?_
      refine z_fgt (.ref (0) :: .ref (1) :: .ref (J 0) :: .ref (J 1) :: .ref (J 2) :: .ref (J 3) :: .ref (J 4) :: .ref (J 5) :: .ref (J 6) :: .ref (J 7) :: .ref (J 8) :: .int (nI at9) :: .ref (J 9) :: .ref (J 10) :: .int (nI nr) :: .int (nI nc) :: .int (nI ni) :: .int (nI tn) :: .int (z) :: .int (q) :: .int (nI kd) :: .int (nI c) :: .int (nI b) :: .int (nI f) :: .int (nI t) :: .null :: .int (X) :: .int (Y) :: .int (nI 1) :: .int (nI f) :: .null :: .null :: .null :: []) ⟨Or.inl rfl, ⟨Or.inl rfl, ⟨Or.inl rfl, ⟨Or.inl rfl, ⟨Or.inl rfl, ⟨Or.inl rfl, ⟨Or.inl rfl, ⟨Or.inl rfl, ⟨Or.inl rfl, ⟨Or.inl rfl, ⟨Or.inl rfl, ⟨Or.inl rfl, ⟨Or.inl rfl, ⟨Or.inl rfl, ⟨Or.inl rfl, ⟨Or.inl rfl, ⟨Or.inl rfl, ⟨Or.inl rfl, ⟨Or.inl rfl, ⟨Or.inl rfl, ⟨Or.inl rfl, ⟨Or.inl rfl, ⟨Or.inl rfl, ⟨Or.inl rfl, ⟨Or.inl rfl, ⟨Or.inl rfl, ⟨Or.inl rfl, ⟨Or.inl rfl, ⟨Or.inl rfl, ⟨Or.inl rfl, ⟨Or.inl rfl, ⟨Or.inl rfl, ⟨Or.inl rfl, trivial⟩⟩⟩⟩⟩⟩⟩⟩⟩⟩⟩⟩⟩⟩⟩⟩⟩⟩⟩⟩⟩⟩⟩⟩⟩⟩⟩⟩⟩⟩⟩⟩⟩ ?_
      exact sec2 1 (Or.inl ⟨rfl, by rw [yb1, yc1, yb2, yc2]; exact (nI_leI (a := yb) (b := yc) (by omega) (by omega)).mpr (by omega)⟩)
  refine z_aload rfl dL_law_1457 ?_
  refine z_bipush (nI 10) (by decide) dL_law_1459 ?_
  refine z_iload rfl dL_law_1461 ?_
  refine m_mulN dL_law_1463 ?_
  refine z_iload rfl dL_law_1464 ?_
  refine m_addN dL_law_1466 ?_
  refine m_xald 3 ((10 * c) + f) 64 rfl (by decide) rfl (by omega) (by decide) dL_law_1467 ?_
  refine z_bipush (-2) (by decide) dL_law_1468 ?_
  refine z_icmp_le 1493 (by decide) dL_law_1470 (fun h1470t => ?_) (fun h1470f => ?_)
  · refine z_iconst (nI 0) (by decide) dL_law_1493 ?_
    refine z_istore (by decide) rfl dL_law_1494 ?_
    refine z_iload rfl dL_law_1496 ?_
    refine z_if_eq 1525 (by decide) dL_law_1498 (fun _ => ?_) (fun h => absurd h (by decide))
    refine z_iconst (nI 0) (by decide) dL_law_1525 ?_
    refine z_istore (by decide) rfl dL_law_1526 ?_
    refine z_iload rfl dL_law_1528 ?_
    refine z_if_eq 1557 (by decide) dL_law_1530 (fun _ => ?_) (fun h => absurd h (by decide))
    refine z_iconst (nI 0) (by decide) dL_law_1557 ?_
    refine z_istore (by decide) rfl dL_law_1558 ?_
    have hx1 : X = nI 0 := hX.trans (cmv_u (fun w => hqc.mp w.1 (hlc.mp h1470t)))
    have hy1 : Y = nI 0 := hY.trans (cmv_u (fun w => hqc.mp w.1 (hlc.mp h1470t)))
    refine z_fgt (.ref (0) :: .ref (1) :: .ref (J 0) :: .ref (J 1) :: .ref (J 2) :: .ref (J 3) :: .ref (J 4) :: .ref (J 5) :: .ref (J 6) :: .ref (J 7) :: .ref (J 8) :: .int (nI at9) :: .ref (J 9) :: .ref (J 10) :: .int (nI nr) :: .int (nI nc) :: .int (nI ni) :: .int (nI tn) :: .int (z) :: .int (q) :: .int (nI kd) :: .int (nI c) :: .int (nI b) :: .int (nI f) :: .int (nI t) :: .null :: .int (nI 0) :: .int (nI 0) :: .null :: .null :: .null :: .null :: .null :: []) ⟨Or.inl rfl, ⟨Or.inl rfl, ⟨Or.inl rfl, ⟨Or.inl rfl, ⟨Or.inl rfl, ⟨Or.inl rfl, ⟨Or.inl rfl, ⟨Or.inl rfl, ⟨Or.inl rfl, ⟨Or.inl rfl, ⟨Or.inl rfl, ⟨Or.inl rfl, ⟨Or.inl rfl, ⟨Or.inl rfl, ⟨Or.inl rfl, ⟨Or.inl rfl, ⟨Or.inl rfl, ⟨Or.inl rfl, ⟨Or.inl rfl, ⟨Or.inl rfl, ⟨Or.inl rfl, ⟨Or.inl rfl, ⟨Or.inl rfl, ⟨Or.inl rfl, ⟨Or.inl rfl, ⟨Or.inr rfl, ⟨Or.inl rfl, ⟨Or.inl rfl, ⟨Or.inl rfl, ⟨Or.inl rfl, ⟨Or.inl rfl, ⟨Or.inl rfl, ⟨Or.inl rfl, trivial⟩⟩⟩⟩⟩⟩⟩⟩⟩⟩⟩⟩⟩⟩⟩⟩⟩⟩⟩⟩⟩⟩⟩⟩⟩⟩⟩⟩⟩⟩⟩⟩⟩ ?_
    exact z_lseq (by rw [hx1, hy1]) sec
  · refine z_aload rfl dL_law_1473 ?_
    refine z_bipush (nI 10) (by decide) dL_law_1475 ?_
    refine z_iload rfl dL_law_1477 ?_
    refine m_mulN dL_law_1479 ?_
    refine z_iload rfl dL_law_1480 ?_
    refine m_addN dL_law_1482 ?_
    refine m_xald 3 ((10 * b) + f) 64 rfl (by decide) rfl (by omega) (by decide) dL_law_1483 ?_
    refine z_bipush (-2) (by decide) dL_law_1484 ?_
    refine z_icmp_le 1493 (by decide) dL_law_1486 (fun h1486t => ?_) (fun h1486f => ?_)
    · refine z_iconst (nI 0) (by decide) dL_law_1493 ?_
      refine z_istore (by decide) rfl dL_law_1494 ?_
      refine z_iload rfl dL_law_1496 ?_
      refine z_if_eq 1525 (by decide) dL_law_1498 (fun _ => ?_) (fun h => absurd h (by decide))
      refine z_iconst (nI 0) (by decide) dL_law_1525 ?_
      refine z_istore (by decide) rfl dL_law_1526 ?_
      refine z_iload rfl dL_law_1528 ?_
      refine z_if_eq 1557 (by decide) dL_law_1530 (fun _ => ?_) (fun h => absurd h (by decide))
      refine z_iconst (nI 0) (by decide) dL_law_1557 ?_
      refine z_istore (by decide) rfl dL_law_1558 ?_
      have hx1 : X = nI 0 := hX.trans (cmv_u (fun w => hqb.mp w.2 (hlb.mp h1486t)))
      have hy1 : Y = nI 0 := hY.trans (cmv_u (fun w => hqb.mp w.2 (hlb.mp h1486t)))
      refine z_fgt (.ref (0) :: .ref (1) :: .ref (J 0) :: .ref (J 1) :: .ref (J 2) :: .ref (J 3) :: .ref (J 4) :: .ref (J 5) :: .ref (J 6) :: .ref (J 7) :: .ref (J 8) :: .int (nI at9) :: .ref (J 9) :: .ref (J 10) :: .int (nI nr) :: .int (nI nc) :: .int (nI ni) :: .int (nI tn) :: .int (z) :: .int (q) :: .int (nI kd) :: .int (nI c) :: .int (nI b) :: .int (nI f) :: .int (nI t) :: .null :: .int (nI 0) :: .int (nI 0) :: .null :: .null :: .null :: .null :: .null :: []) ⟨Or.inl rfl, ⟨Or.inl rfl, ⟨Or.inl rfl, ⟨Or.inl rfl, ⟨Or.inl rfl, ⟨Or.inl rfl, ⟨Or.inl rfl, ⟨Or.inl rfl, ⟨Or.inl rfl, ⟨Or.inl rfl, ⟨Or.inl rfl, ⟨Or.inl rfl, ⟨Or.inl rfl, ⟨Or.inl rfl, ⟨Or.inl rfl, ⟨Or.inl rfl, ⟨Or.inl rfl, ⟨Or.inl rfl, ⟨Or.inl rfl, ⟨Or.inl rfl, ⟨Or.inl rfl, ⟨Or.inl rfl, ⟨Or.inl rfl, ⟨Or.inl rfl, ⟨Or.inl rfl, ⟨Or.inr rfl, ⟨Or.inl rfl, ⟨Or.inl rfl, ⟨Or.inl rfl, ⟨Or.inl rfl, ⟨Or.inl rfl, ⟨Or.inl rfl, ⟨Or.inl rfl, trivial⟩⟩⟩⟩⟩⟩⟩⟩⟩⟩⟩⟩⟩⟩⟩⟩⟩⟩⟩⟩⟩⟩⟩⟩⟩⟩⟩⟩⟩⟩⟩⟩⟩ ?_
      exact z_lseq (by rw [hx1, hy1]) sec
    · refine z_iconst (nI 1) (by decide) dL_law_1489 ?_
      refine z_goto 1494 (by decide) dL_law_1490 ?_
      refine z_istore (by decide) rfl dL_law_1494 ?_
      refine z_iload rfl dL_law_1496 ?_
      refine z_if_eq 1525 (by decide) dL_law_1498 (fun h => absurd h (by decide)) (fun _ => ?_)
      refine z_aload_n rfl rfl dL_law_1501 ?_
      refine z_bipush (nI 10) (by decide) dL_law_1502 ?_
      refine z_iload rfl dL_law_1504 ?_
      refine m_mulN dL_law_1506 ?_
      refine z_iload rfl dL_law_1507 ?_
      refine m_addN dL_law_1509 ?_
      refine m_xald 0 ((10 * c) + f) 64 rfl (by decide) rfl (by omega) (by decide) dL_law_1510 ?_
      refine z_aload_n rfl rfl dL_law_1511 ?_
      refine z_bipush (nI 10) (by decide) dL_law_1512 ?_
      refine z_iload rfl dL_law_1514 ?_
      refine m_mulN dL_law_1516 ?_
      refine z_iload rfl dL_law_1517 ?_
      refine m_addN dL_law_1519 ?_
      refine m_xald 0 ((10 * b) + f) 64 rfl (by decide) rfl (by omega) (by decide) dL_law_1520 ?_
      refine z_isub dL_law_1521 ?_
      refine z_goto 1526 (by decide) dL_law_1522 ?_
      refine z_istore (by decide) rfl dL_law_1526 ?_
      refine z_iload rfl dL_law_1528 ?_
      refine z_if_eq 1557 (by decide) dL_law_1530 (fun h => absurd h (by decide)) (fun _ => ?_)
      refine z_aload_n rfl rfl dL_law_1533 ?_
      refine z_bipush (nI 10) (by decide) dL_law_1534 ?_
      refine z_iload rfl dL_law_1536 ?_
      refine m_mulN dL_law_1538 ?_
      refine z_iload rfl dL_law_1539 ?_
      refine m_addN dL_law_1541 ?_
      refine m_xald 1 ((10 * c) + f) 64 rfl (by decide) rfl (by omega) (by decide) dL_law_1542 ?_
      refine z_aload_n rfl rfl dL_law_1543 ?_
      refine z_bipush (nI 10) (by decide) dL_law_1544 ?_
      refine z_iload rfl dL_law_1546 ?_
      refine m_mulN dL_law_1548 ?_
      refine z_iload rfl dL_law_1549 ?_
      refine m_addN dL_law_1551 ?_
      refine m_xald 1 ((10 * b) + f) 64 rfl (by decide) rfl (by omega) (by decide) dL_law_1552 ?_
      refine z_isub dL_law_1553 ?_
      refine z_goto 1558 (by decide) dL_law_1554 ?_
      refine z_istore (by decide) rfl dL_law_1558 ?_
      have hx := cmv_k (hqc.mpr (fun w => h1470f (hlc.mpr w))) (hqb.mpr (fun w => h1486f (hlb.mpr w))) hPc hPb
      rw [← hX, ← hY] at hx
      refine z_fgt (.ref (0) :: .ref (1) :: .ref (J 0) :: .ref (J 1) :: .ref (J 2) :: .ref (J 3) :: .ref (J 4) :: .ref (J 5) :: .ref (J 6) :: .ref (J 7) :: .ref (J 8) :: .int (nI at9) :: .ref (J 9) :: .ref (J 10) :: .int (nI nr) :: .int (nI nc) :: .int (nI ni) :: .int (nI tn) :: .int (z) :: .int (q) :: .int (nI kd) :: .int (nI c) :: .int (nI b) :: .int (nI f) :: .int (nI t) :: .null :: .int ((ν 0 ((10 * c) + f)) - (ν 0 ((10 * b) + f))) :: .int ((ν 1 ((10 * c) + f)) - (ν 1 ((10 * b) + f))) :: .null :: .null :: .null :: .null :: .null :: []) ⟨Or.inl rfl, ⟨Or.inl rfl, ⟨Or.inl rfl, ⟨Or.inl rfl, ⟨Or.inl rfl, ⟨Or.inl rfl, ⟨Or.inl rfl, ⟨Or.inl rfl, ⟨Or.inl rfl, ⟨Or.inl rfl, ⟨Or.inl rfl, ⟨Or.inl rfl, ⟨Or.inl rfl, ⟨Or.inl rfl, ⟨Or.inl rfl, ⟨Or.inl rfl, ⟨Or.inl rfl, ⟨Or.inl rfl, ⟨Or.inl rfl, ⟨Or.inl rfl, ⟨Or.inl rfl, ⟨Or.inl rfl, ⟨Or.inl rfl, ⟨Or.inl rfl, ⟨Or.inl rfl, ⟨Or.inr rfl, ⟨Or.inl rfl, ⟨Or.inl rfl, ⟨Or.inl rfl, ⟨Or.inl rfl, ⟨Or.inl rfl, ⟨Or.inl rfl, ⟨Or.inl rfl, trivial⟩⟩⟩⟩⟩⟩⟩⟩⟩⟩⟩⟩⟩⟩⟩⟩⟩⟩⟩⟩⟩⟩⟩⟩⟩⟩⟩⟩⟩⟩⟩⟩⟩ ?_
      exact z_lseq (by rw [hx.1, hx.2]) sec
