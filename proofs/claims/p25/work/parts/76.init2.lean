/-! the law up to its turns (printed by wip/p25/gen_4.py) -/
set_option maxRecDepth 100000 in
set_option maxHeartbeats 4000000 in
theorem lp_C {E : Nat × (Nat → Int32)} (hE : E.1 ≤ 260) {o : zO} {J : Nat → Nat}  (kk : ∀ (μ ν : zMu) (u us : Nat), cI μ ν 10 → u ≤ 400 → us ≤ 64 * u → zV true E kL_law 0 o 181 (.ref (0) :: .ref (1) :: .ref (J 0) :: .ref (J 1) :: .ref (J 2) :: .ref (J 3) :: .ref (J 4) :: .ref (J 5) :: .ref (J 6) :: .ref (J 7) :: .ref (J 8) :: .int (nI 10) :: .null :: .null :: .null :: .null :: .null :: .null :: .null :: .null :: .null :: .null :: .null :: .null :: .null :: .null :: .null :: .null :: .null :: .null :: .null :: .null :: .null :: []) [] (zm μ (J, 9, ν)) u us) : ∀ (n : Nat) (p : Nat) (μ ν : zMu) (u us : Nat), 10 - p = n → p ≤ 10 → cI μ ν p → u ≤ 125 + 20 * p → us ≤ 64 * u → zV true E kL_law 0 o 64 (.ref (0) :: .ref (1) :: .ref (J 0) :: .ref (J 1) :: .ref (J 2) :: .ref (J 3) :: .ref (J 4) :: .ref (J 5) :: .ref (J 6) :: .ref (J 7) :: .ref (J 8) :: .int (nI p) :: .int (nI p) :: .null :: .null :: .null :: .null :: .null :: .null :: .null :: .null :: .null :: .null :: .null :: .null :: .null :: .null :: .null :: .null :: .null :: .null :: .null :: .null :: []) [] (zm μ (J, 9, ν)) u us := by
  intro n
  induction n using Nat.strongRecOn with
  | ind n ih =>
    intro p μ ν u us e h10 hI hu hus
    refine z_iload rfl dL_law_64 ?_
    refine z_bipush (nI 10) (by decide) dL_law_66 ?_
    refine z_icmp_ge 181 (by decide) dL_law_68 (z_br (zcn (n := 10) (by omega) (p) (by omega)).2.2 (fun h68t => ?_)) (z_brn (zcn (n := 10) (by omega) (p) (by omega)).2.2 (fun h68f => ?_))
    · obtain rfl : p = 10 := by omega
      refine z_fgt (.ref (0) :: .ref (1) :: .ref (J 0) :: .ref (J 1) :: .ref (J 2) :: .ref (J 3) :: .ref (J 4) :: .ref (J 5) :: .ref (J 6) :: .ref (J 7) :: .ref (J 8) :: .int (nI 10) :: .null :: .null :: .null :: .null :: .null :: .null :: .null :: .null :: .null :: .null :: .null :: .null :: .null :: .null :: .null :: .null :: .null :: .null :: .null :: .null :: .null :: []) ⟨Or.inl rfl, ⟨Or.inl rfl, ⟨Or.inl rfl, ⟨Or.inl rfl, ⟨Or.inl rfl, ⟨Or.inl rfl, ⟨Or.inl rfl, ⟨Or.inl rfl, ⟨Or.inl rfl, ⟨Or.inl rfl, ⟨Or.inl rfl, ⟨Or.inl rfl, ⟨Or.inr rfl, ⟨Or.inl rfl, ⟨Or.inl rfl, ⟨Or.inl rfl, ⟨Or.inl rfl, ⟨Or.inl rfl, ⟨Or.inl rfl, ⟨Or.inl rfl, ⟨Or.inl rfl, ⟨Or.inl rfl, ⟨Or.inl rfl, ⟨Or.inl rfl, ⟨Or.inl rfl, ⟨Or.inl rfl, ⟨Or.inl rfl, ⟨Or.inl rfl, ⟨Or.inl rfl, ⟨Or.inl rfl, ⟨Or.inl rfl, ⟨Or.inl rfl, ⟨Or.inl rfl, trivial⟩⟩⟩⟩⟩⟩⟩⟩⟩⟩⟩⟩⟩⟩⟩⟩⟩⟩⟩⟩⟩⟩⟩⟩⟩⟩⟩⟩⟩⟩⟩⟩⟩ ?_
      exact kk _ _ _ _ hI (by omega) hus
    · refine z_aload_n rfl rfl dL_law_71 ?_
      refine z_iload rfl dL_law_72 ?_
      obtain ⟨v74, hc74⟩ := ct_L_cell (E := E) (μ := μ) (J := J) (m := 9) (ν := ν) hE (k := p) (by omega)
      refine z_callS (as := [.ref (0), .int (nI p)]) hc74 ko_L_cell kl_L_53 rfl rfl ⟨by decide, by decide, by show u + 0 ≤ 600086; omega, by show us + 0 ≤ 7301442; omega⟩ (Nat.le_of_ble_eq_true rfl) rfl dL_law_74 ?_
      show zV true E kL_law 0 o 77 (.ref (0) :: .ref (1) :: .ref (J 0) :: .ref (J 1) :: .ref (J 2) :: .ref (J 3) :: .ref (J 4) :: .ref (J 5) :: .ref (J 6) :: .ref (J 7) :: .ref (J 8) :: .int (nI p) :: .int (nI p) :: .null :: .null :: .null :: .null :: .null :: .null :: .null :: .null :: .null :: .null :: .null :: .null :: .null :: .null :: .null :: .null :: .null :: .null :: .null :: .null :: []) [.int (v74)] (zm μ (J, 9, ν)) (u + 0) (us + 0)
      refine z_istore (by decide) rfl dL_law_77 ?_
      refine z_aload rfl dL_law_79 ?_
      refine z_iload rfl dL_law_81 ?_
      refine z_iload rfl dL_law_83 ?_
      refine z_sipush (nI 1001) (by decide) dL_law_85 ?_
      obtain ⟨k88, hk88, hl88⟩ := ct_L_low (E := E) (μ := μ) (J := J) (m := 9) (ν := ν) (v74) (n := 1001) (by omega) (by omega)
      refine z_callS (as := [.int (v74), .int (nI 1001)]) hl88 ko_L_low kl_L_57 rfl rfl ⟨by decide, by decide, by show u + 0 + 0 ≤ 600086; omega, by show us + 0 + 0 ≤ 7301442; omega⟩ (Nat.le_of_ble_eq_true rfl) rfl dL_law_88 ?_
      show zV true E kL_law 0 o 91 (.ref (0) :: .ref (1) :: .ref (J 0) :: .ref (J 1) :: .ref (J 2) :: .ref (J 3) :: .ref (J 4) :: .ref (J 5) :: .ref (J 6) :: .ref (J 7) :: .ref (J 8) :: .int (nI p) :: .int (nI p) :: .int (v74) :: .null :: .null :: .null :: .null :: .null :: .null :: .null :: .null :: .null :: .null :: .null :: .null :: .null :: .null :: .null :: .null :: .null :: .null :: .null :: []) [.int (nI k88), .int (nI p), .ref (J 4)] (zm μ (J, 9, ν)) (u + 0 + 0) (us + 0 + 0)
      refine z_sipush (nI 500) (by decide) dL_law_91 ?_
      refine z_isub dL_law_94 ?_
      obtain ⟨x1, ex1⟩ : ∃ z, z = (nI k88) - (nI 500) := ⟨_, rfl⟩
      refine m_eqv (w := x1) ex1.symm ?_
      have bx : rb 500 x1 := by rw [ex1]; exact rb_low hk88 (by omega) (by omega) (by omega)
      refine m_xast 4 (p) 64 rfl (by decide) rfl (by omega) (by decide) dL_law_95 ?_
      refine z_aload rfl dL_law_96 ?_
      refine z_bipush (nI 10) (by decide) dL_law_98 ?_
      refine z_iload rfl dL_law_100 ?_
      refine m_addN dL_law_102 ?_
      refine z_iload rfl dL_law_103 ?_
      refine z_bipush (nI 10) (by decide) dL_law_105 ?_
      refine z_ishr dL_law_107 ?_
      refine z_sipush (nI 1001) (by decide) dL_law_108 ?_
      obtain ⟨k111, hk111, hl111⟩ := ct_L_low (E := E) (μ := μ) (J := J) (m := 9) (ν := zu ν 4 p x1) (v74 >>> ((nI 10) &&& 31)) (n := 1001) (by omega) (by omega)
      refine z_callS (as := [.int (v74 >>> ((nI 10) &&& 31)), .int (nI 1001)]) hl111 ko_L_low kl_L_57 rfl rfl ⟨by decide, by decide, by show u + 0 + 0 + 0 ≤ 600086; omega, by show us + 0 + 0 + 0 ≤ 7301442; omega⟩ (Nat.le_of_ble_eq_true rfl) rfl dL_law_111 ?_
      show zV true E kL_law 0 o 114 (.ref (0) :: .ref (1) :: .ref (J 0) :: .ref (J 1) :: .ref (J 2) :: .ref (J 3) :: .ref (J 4) :: .ref (J 5) :: .ref (J 6) :: .ref (J 7) :: .ref (J 8) :: .int (nI p) :: .int (nI p) :: .int (v74) :: .null :: .null :: .null :: .null :: .null :: .null :: .null :: .null :: .null :: .null :: .null :: .null :: .null :: .null :: .null :: .null :: .null :: .null :: .null :: []) [.int (nI k111), .int (nI (10 + p)), .ref (J 4)] (zm μ (J, 9, (zu ν 4 p x1))) (u + 0 + 0 + 0) (us + 0 + 0 + 0)
      refine z_sipush (nI 500) (by decide) dL_law_114 ?_
      refine z_isub dL_law_117 ?_
      obtain ⟨y1, ey1⟩ : ∃ z, z = (nI k111) - (nI 500) := ⟨_, rfl⟩
      refine m_eqv (w := y1) ey1.symm ?_
      have by1 : rb 500 y1 := by rw [ey1]; exact rb_low hk111 (by omega) (by omega) (by omega)
      refine m_xast 4 (10 + p) 64 rfl (by decide) rfl (by omega) (by decide) dL_law_118 ?_
      refine z_aload rfl dL_law_119 ?_
      refine z_bipush (nI 20) (by decide) dL_law_121 ?_
      refine z_iload rfl dL_law_123 ?_
      refine m_addN dL_law_125 ?_
      refine z_iconst (nI 1) (by decide) dL_law_126 ?_
      refine z_iload rfl dL_law_127 ?_
      refine z_bipush (nI 20) (by decide) dL_law_129 ?_
      refine z_ishr dL_law_131 ?_
      refine z_bipush (nI 12) (by decide) dL_law_132 ?_
      obtain ⟨k134, hk134, hl134⟩ := ct_L_low (E := E) (μ := μ) (J := J) (m := 9) (ν := zu (zu ν 4 p x1) 4 (10 + p) y1) (v74 >>> ((nI 20) &&& 31)) (n := 12) (by omega) (by omega)
      refine z_callS (as := [.int (v74 >>> ((nI 20) &&& 31)), .int (nI 12)]) hl134 ko_L_low kl_L_57 rfl rfl ⟨by decide, by decide, by show u + 0 + 0 + 0 + 0 ≤ 600086; omega, by show us + 0 + 0 + 0 + 0 ≤ 7301442; omega⟩ (Nat.le_of_ble_eq_true rfl) rfl dL_law_134 ?_
      show zV true E kL_law 0 o 137 (.ref (0) :: .ref (1) :: .ref (J 0) :: .ref (J 1) :: .ref (J 2) :: .ref (J 3) :: .ref (J 4) :: .ref (J 5) :: .ref (J 6) :: .ref (J 7) :: .ref (J 8) :: .int (nI p) :: .int (nI p) :: .int (v74) :: .null :: .null :: .null :: .null :: .null :: .null :: .null :: .null :: .null :: .null :: .null :: .null :: .null :: .null :: .null :: .null :: .null :: .null :: .null :: []) [.int (nI k134), .int (nI 1), .int (nI (20 + p)), .ref (J 4)] (zm μ (J, 9, (zu (zu ν 4 p x1) 4 (10 + p) y1))) (u + 0 + 0 + 0 + 0) (us + 0 + 0 + 0 + 0)
      refine m_addN dL_law_137 ?_
      refine m_xast 4 (20 + p) 64 rfl (by decide) rfl (by omega) (by decide) dL_law_138 ?_
      refine z_aload_n rfl rfl dL_law_139 ?_
      refine z_iload rfl dL_law_140 ?_
      refine z_aload rfl dL_law_142 ?_
      refine z_iload rfl dL_law_144 ?_
      refine m_xald 4 (p) 64 rfl (by decide) rfl (by omega) (by decide) dL_law_146 ?_
      refine m_eqv (w := x1) (by rw [zu_o2 (by omega), zu_o2 (by omega), zu_s]) ?_
      refine z_aload rfl dL_law_147 ?_
      refine z_bipush (nI 10) (by decide) dL_law_149 ?_
      refine z_iload rfl dL_law_151 ?_
      refine m_addN dL_law_153 ?_
      refine m_xald 4 (10 + p) 64 rfl (by decide) rfl (by omega) (by decide) dL_law_154 ?_
      refine m_eqv (w := y1) (by rw [zu_o2 (by omega), zu_s]) ?_
      refine z_aload rfl dL_law_155 ?_
      refine z_bipush (nI 20) (by decide) dL_law_157 ?_
      refine z_iload rfl dL_law_159 ?_
      refine m_addN dL_law_161 ?_
      refine m_xald 4 (20 + p) 64 rfl (by decide) rfl (by omega) (by decide) dL_law_162 ?_
      refine m_eqv (w := nI (1 + k134)) zu_s ?_
      refine z_sipush (nI 1000) (by decide) dL_law_163 ?_
      refine z_iload rfl dL_law_166 ?_
      refine m_addN dL_law_168 ?_
      refine z_callV (as := [.int (nI p), .int (x1), .int (y1), .int (nI (1 + k134)), .int (nI (1000 + p))]) (by have h := ct_X7_coast (E := E) (μ := μ) (g := (J, 9, zu (zu (zu ν 4 p x1) 4 (10 + p) y1) 4 (20 + p) (nI (1 + k134)))) (nr := 0) hI.2.2.2.1.2 (by omega) (j := p) (by omega) (x := x1) (y := y1) (n := nI (1 + k134)) (t := nI (1000 + p)); rw [if_neg (fun q => q ⟨zin_rb (by decide) bx, zin_rb (by decide) by1, znm_nI (by omega) (by omega), zyr_nI (by omega)⟩), if_neg (Nat.lt_irrefl 0)] at h; exact h) ko_X7_coast kl_L_60 rfl (zl_a rfl rfl) rfl rfl ⟨by decide, by decide, by show u + 0 + 0 + 0 + 0 + 2 ≤ 600086; omega, by show us + 0 + 0 + 0 + 0 + 12 ≤ 7301442; omega⟩ (Nat.le_of_ble_eq_true rfl) rfl dL_law_169 ?_
      show zV true E kL_law 0 o 172 (.ref (0) :: .ref (1) :: .ref (J 0) :: .ref (J 1) :: .ref (J 2) :: .ref (J 3) :: .ref (J 4) :: .ref (J 5) :: .ref (J 6) :: .ref (J 7) :: .ref (J 8) :: .int (nI p) :: .int (nI p) :: .int (v74) :: .null :: .null :: .null :: .null :: .null :: .null :: .null :: .null :: .null :: .null :: .null :: .null :: .null :: .null :: .null :: .null :: .null :: .null :: .null :: []) [] (zm (zu (zu (zu (zu μ 3 p x1) 4 p y1) 5 p (nI (1 + k134))) 6 p (nI (1000 + p))) (J, 9, (zu (zu (zu ν 4 p x1) 4 (10 + p) y1) 4 (20 + p) (nI (1 + k134))))) (u + 0 + 0 + 0 + 0 + 2) (us + 0 + 0 + 0 + 0 + 12)
      refine z_iinc (nI (p + 1)) rfl (zincN _ 1) (by decide) rfl dL_law_172 ?_
      refine z_iinc (nI (p + 1)) rfl (zincN _ 1) (by decide) rfl dL_law_175 ?_
      refine z_goto 64 (by decide) dL_law_178 ?_
      refine z_fgt (.ref (0) :: .ref (1) :: .ref (J 0) :: .ref (J 1) :: .ref (J 2) :: .ref (J 3) :: .ref (J 4) :: .ref (J 5) :: .ref (J 6) :: .ref (J 7) :: .ref (J 8) :: .int (nI (p + 1)) :: .int (nI (p + 1)) :: .null :: .null :: .null :: .null :: .null :: .null :: .null :: .null :: .null :: .null :: .null :: .null :: .null :: .null :: .null :: .null :: .null :: .null :: .null :: .null :: []) ⟨Or.inl rfl, ⟨Or.inl rfl, ⟨Or.inl rfl, ⟨Or.inl rfl, ⟨Or.inl rfl, ⟨Or.inl rfl, ⟨Or.inl rfl, ⟨Or.inl rfl, ⟨Or.inl rfl, ⟨Or.inl rfl, ⟨Or.inl rfl, ⟨Or.inl rfl, ⟨Or.inl rfl, ⟨Or.inr rfl, ⟨Or.inl rfl, ⟨Or.inl rfl, ⟨Or.inl rfl, ⟨Or.inl rfl, ⟨Or.inl rfl, ⟨Or.inl rfl, ⟨Or.inl rfl, ⟨Or.inl rfl, ⟨Or.inl rfl, ⟨Or.inl rfl, ⟨Or.inl rfl, ⟨Or.inl rfl, ⟨Or.inl rfl, ⟨Or.inl rfl, ⟨Or.inl rfl, ⟨Or.inl rfl, ⟨Or.inl rfl, ⟨Or.inl rfl, ⟨Or.inl rfl, trivial⟩⟩⟩⟩⟩⟩⟩⟩⟩⟩⟩⟩⟩⟩⟩⟩⟩⟩⟩⟩⟩⟩⟩⟩⟩⟩⟩⟩⟩⟩⟩⟩⟩ ?_
      exact ih (10 - (p + 1)) (by omega) (p + 1) _ _ _ _ rfl (by omega) (cI_s hI (by omega) bx by1 (by omega) (by omega)) (by show u + 0 + 0 + 0 + 0 + 2 ≤ _; omega) (by show us + 0 + 0 + 0 + 0 + 12 ≤ 64 * (u + 0 + 0 + 0 + 0 + 2); omega)
set_option maxRecDepth 100000 in
set_option maxHeartbeats 4000000 in
theorem sc_P {E : Nat × (Nat → Int32)} {o : zO} {J : Nat → Nat} {μ ν : zMu} (hI : cI μ ν 10) {u us : Nat} (hu : u ≤ 400) (hus : us ≤ 64 * u) (kk : ∀ J : Nat → Nat, zV true E kL_law 0 o 195 (.ref (0) :: .ref (1) :: .ref (J 0) :: .ref (J 1) :: .ref (J 2) :: .ref (J 3) :: .ref (J 4) :: .ref (J 5) :: .ref (J 6) :: .ref (J 7) :: .ref (J 8) :: .int (nI 10) :: .ref (J 9) :: .ref (J 10) :: .int (nI 0) :: .null :: .null :: .null :: .null :: .null :: .null :: .null :: .null :: .null :: .null :: .null :: .null :: .null :: .null :: .null :: .null :: .null :: .null :: []) [] (zm μ (J, 11, ν)) (u + 1 + 1) (us + 64 + 4)) : zV true E kL_law 0 o 181 (.ref (0) :: .ref (1) :: .ref (J 0) :: .ref (J 1) :: .ref (J 2) :: .ref (J 3) :: .ref (J 4) :: .ref (J 5) :: .ref (J 6) :: .ref (J 7) :: .ref (J 8) :: .int (nI 10) :: .null :: .null :: .null :: .null :: .null :: .null :: .null :: .null :: .null :: .null :: .null :: .null :: .null :: .null :: .null :: .null :: .null :: .null :: .null :: .null :: .null :: []) [] (zm μ (J, 9, ν)) u us := by
  refine z_bipush (nI 64) (by decide) dL_law_181 ?_
  refine m_xnew 64 rfl (by decide) (by show u + 1 ≤ 600086; omega) (by show us + 64 ≤ 7301442; omega) dL_law_183 (fun J1 ν1 h1 g1 z1 => ?_)
  refine z_astore (by decide) rfl dL_law_185 ?_
  refine z_iconst (nI 4) (by decide) dL_law_187 ?_
  refine m_xnew 4 rfl (by decide) (by show u + 1 + 1 ≤ 600086; omega) (by show us + 64 + 4 ≤ 7301442; omega) dL_law_188 (fun J2 ν2 h2 g2 z2 => ?_)
  refine z_astore (by decide) rfl dL_law_190 ?_
  refine z_iconst (nI 0) (by decide) dL_law_192 ?_
  refine z_istore (by decide) rfl dL_law_193 ?_
  refine m_xdrop (J' := J2) (ν' := ν) (m' := 11) (Nat.le_refl _) (fun a _ => rfl) (fun a ha => ?_) ?_
  · by_cases e1 : a = 10
    · rw [e1, z2]; exact hI.2.2.2.2.2
    · rw [g2 a (by omega)]
      by_cases e2 : a = 9
      · rw [e2, z1]; exact hI.2.2.2.2.1
      · rw [g1 a (by omega)]
  have e0 : J 0 = J2 0 := by rw [h2 0 (by omega), h1 0 (by omega)]
  have e1 : J 1 = J2 1 := by rw [h2 1 (by omega), h1 1 (by omega)]
  have e2 : J 2 = J2 2 := by rw [h2 2 (by omega), h1 2 (by omega)]
  have e3 : J 3 = J2 3 := by rw [h2 3 (by omega), h1 3 (by omega)]
  have e4 : J 4 = J2 4 := by rw [h2 4 (by omega), h1 4 (by omega)]
  have e5 : J 5 = J2 5 := by rw [h2 5 (by omega), h1 5 (by omega)]
  have e6 : J 6 = J2 6 := by rw [h2 6 (by omega), h1 6 (by omega)]
  have e7 : J 7 = J2 7 := by rw [h2 7 (by omega), h1 7 (by omega)]
  have e8 : J 8 = J2 8 := by rw [h2 8 (by omega), h1 8 (by omega)]
  have e9 : J1 9 = J2 9 := (h2 9 (by omega)).symm
  show zV true E kL_law 0 o 195 (.ref (0) :: .ref (1) :: .ref (J 0) :: .ref (J 1) :: .ref (J 2) :: .ref (J 3) :: .ref (J 4) :: .ref (J 5) :: .ref (J 6) :: .ref (J 7) :: .ref (J 8) :: .int (nI 10) :: .ref (J1 9) :: .ref (J2 10) :: .int (nI 0) :: .null :: .null :: .null :: .null :: .null :: .null :: .null :: .null :: .null :: .null :: .null :: .null :: .null :: .null :: .null :: .null :: .null :: .null :: []) [] (zm μ (J2, 11, ν)) (u + 1 + 1) (us + 64 + 4)
  exact z_lseq (ls1 := (.ref (0) :: .ref (1) :: .ref (J2 0) :: .ref (J2 1) :: .ref (J2 2) :: .ref (J2 3) :: .ref (J2 4) :: .ref (J2 5) :: .ref (J2 6) :: .ref (J2 7) :: .ref (J2 8) :: .int (nI 10) :: .ref (J2 9) :: .ref (J2 10) :: .int (nI 0) :: .null :: .null :: .null :: .null :: .null :: .null :: .null :: .null :: .null :: .null :: .null :: .null :: .null :: .null :: .null :: .null :: .null :: .null :: [])) (by rw [e0, e1, e2, e3, e4, e5, e6, e7, e8, e9]) (kk J2)
set_option maxRecDepth 100000 in
set_option maxHeartbeats 4000000 in
theorem lp_P {E : Nat × (Nat → Int32)} (hE : E.1 ≤ 260) {o : zO} {J : Nat → Nat}  (kk : ∀ (μ ν : zMu) (u us : Nat), pI μ ν 2 → u ≤ 600 → us ≤ 64 * u → zV true E kL_law 0 o 284 (.ref (0) :: .ref (1) :: .ref (J 0) :: .ref (J 1) :: .ref (J 2) :: .ref (J 3) :: .ref (J 4) :: .ref (J 5) :: .ref (J 6) :: .ref (J 7) :: .ref (J 8) :: .int (nI 12) :: .ref (J 9) :: .ref (J 10) :: .null :: .null :: .null :: .null :: .null :: .null :: .null :: .null :: .null :: .null :: .null :: .null :: .null :: .null :: .null :: .null :: .null :: .null :: .null :: []) [] (zm μ (J, 11, ν)) u us) : ∀ (n : Nat) (k : Nat) (μ ν : zMu) (u us : Nat), 2 - k = n → k ≤ 2 → pI μ ν k → u ≤ 402 + 20 * k → us ≤ 64 * u → zV true E kL_law 0 o 195 (.ref (0) :: .ref (1) :: .ref (J 0) :: .ref (J 1) :: .ref (J 2) :: .ref (J 3) :: .ref (J 4) :: .ref (J 5) :: .ref (J 6) :: .ref (J 7) :: .ref (J 8) :: .int (nI (10 + k)) :: .ref (J 9) :: .ref (J 10) :: .int (nI k) :: .null :: .null :: .null :: .null :: .null :: .null :: .null :: .null :: .null :: .null :: .null :: .null :: .null :: .null :: .null :: .null :: .null :: .null :: []) [] (zm μ (J, 11, ν)) u us := by
  intro n
  induction n using Nat.strongRecOn with
  | ind n ih =>
    intro k μ ν u us e h2 hI hu hus
    refine z_iload rfl dL_law_195 ?_
    refine z_iconst (nI 2) (by decide) dL_law_197 ?_
    refine z_icmp_ge 284 (by decide) dL_law_198 (z_br (zcn (n := 2) (by omega) (k) (by omega)).2.2 (fun h198t => ?_)) (z_brn (zcn (n := 2) (by omega) (k) (by omega)).2.2 (fun h198f => ?_))
    · obtain rfl : k = 2 := by omega
      refine z_fgt (.ref (0) :: .ref (1) :: .ref (J 0) :: .ref (J 1) :: .ref (J 2) :: .ref (J 3) :: .ref (J 4) :: .ref (J 5) :: .ref (J 6) :: .ref (J 7) :: .ref (J 8) :: .int (nI (10 + 2)) :: .ref (J 9) :: .ref (J 10) :: .null :: .null :: .null :: .null :: .null :: .null :: .null :: .null :: .null :: .null :: .null :: .null :: .null :: .null :: .null :: .null :: .null :: .null :: .null :: []) ⟨Or.inl rfl, ⟨Or.inl rfl, ⟨Or.inl rfl, ⟨Or.inl rfl, ⟨Or.inl rfl, ⟨Or.inl rfl, ⟨Or.inl rfl, ⟨Or.inl rfl, ⟨Or.inl rfl, ⟨Or.inl rfl, ⟨Or.inl rfl, ⟨Or.inl rfl, ⟨Or.inl rfl, ⟨Or.inl rfl, ⟨Or.inr rfl, ⟨Or.inl rfl, ⟨Or.inl rfl, ⟨Or.inl rfl, ⟨Or.inl rfl, ⟨Or.inl rfl, ⟨Or.inl rfl, ⟨Or.inl rfl, ⟨Or.inl rfl, ⟨Or.inl rfl, ⟨Or.inl rfl, ⟨Or.inl rfl, ⟨Or.inl rfl, ⟨Or.inl rfl, ⟨Or.inl rfl, ⟨Or.inl rfl, ⟨Or.inl rfl, ⟨Or.inl rfl, ⟨Or.inl rfl, trivial⟩⟩⟩⟩⟩⟩⟩⟩⟩⟩⟩⟩⟩⟩⟩⟩⟩⟩⟩⟩⟩⟩⟩⟩⟩⟩⟩⟩⟩⟩⟩⟩⟩ ?_
      exact kk _ _ _ _ hI (by omega) hus
    · refine z_aload rfl dL_law_201 ?_
      refine z_iconst (nI 2) (by decide) dL_law_203 ?_
      refine z_iload rfl dL_law_204 ?_
      refine m_mulN dL_law_206 ?_
      refine z_aload_n rfl rfl dL_law_207 ?_
      refine z_iload rfl dL_law_208 ?_
      obtain ⟨v210, hc210⟩ := ct_L_cell (E := E) (μ := μ) (J := J) (m := 11) (ν := ν) hE (k := 10 + k) (by omega)
      refine z_callS (as := [.ref (0), .int (nI (10 + k))]) hc210 ko_L_cell kl_L_53 rfl rfl ⟨by decide, by decide, by show u + 0 ≤ 600086; omega, by show us + 0 ≤ 7301442; omega⟩ (Nat.le_of_ble_eq_true rfl) rfl dL_law_210 ?_
      show zV true E kL_law 0 o 213 (.ref (0) :: .ref (1) :: .ref (J 0) :: .ref (J 1) :: .ref (J 2) :: .ref (J 3) :: .ref (J 4) :: .ref (J 5) :: .ref (J 6) :: .ref (J 7) :: .ref (J 8) :: .int (nI (10 + k)) :: .ref (J 9) :: .ref (J 10) :: .int (nI k) :: .null :: .null :: .null :: .null :: .null :: .null :: .null :: .null :: .null :: .null :: .null :: .null :: .null :: .null :: .null :: .null :: .null :: .null :: []) [.int (v210), .int (nI (2 * k)), .ref (J 10)] (zm μ (J, 11, ν)) (u + 0) (us + 0)
      refine z_bipush (nI 61) (by decide) dL_law_213 ?_
      obtain ⟨k215, hk215, hl215⟩ := ct_L_low (E := E) (μ := μ) (J := J) (m := 11) (ν := ν) (v210) (n := 61) (by omega) (by omega)
      refine z_callS (as := [.int (v210), .int (nI 61)]) hl215 ko_L_low kl_L_57 rfl rfl ⟨by decide, by decide, by show u + 0 + 0 ≤ 600086; omega, by show us + 0 + 0 ≤ 7301442; omega⟩ (Nat.le_of_ble_eq_true rfl) rfl dL_law_215 ?_
      show zV true E kL_law 0 o 218 (.ref (0) :: .ref (1) :: .ref (J 0) :: .ref (J 1) :: .ref (J 2) :: .ref (J 3) :: .ref (J 4) :: .ref (J 5) :: .ref (J 6) :: .ref (J 7) :: .ref (J 8) :: .int (nI (10 + k)) :: .ref (J 9) :: .ref (J 10) :: .int (nI k) :: .null :: .null :: .null :: .null :: .null :: .null :: .null :: .null :: .null :: .null :: .null :: .null :: .null :: .null :: .null :: .null :: .null :: .null :: []) [.int (nI k215), .int (nI (2 * k)), .ref (J 10)] (zm μ (J, 11, ν)) (u + 0 + 0) (us + 0 + 0)
      refine z_bipush (nI 30) (by decide) dL_law_218 ?_
      refine z_isub dL_law_220 ?_
      obtain ⟨x1, ex1⟩ : ∃ z, z = (nI k215) - (nI 30) := ⟨_, rfl⟩
      refine m_eqv (w := x1) ex1.symm ?_
      have bx : rb 30 x1 := by rw [ex1]; exact rb_low hk215 (by omega) (by omega) (by omega)
      refine m_xast 10 (2 * k) 4 rfl (by decide) rfl (by omega) (by decide) dL_law_221 ?_
      refine z_aload rfl dL_law_222 ?_
      refine z_iconst (nI 2) (by decide) dL_law_224 ?_
      refine z_iload rfl dL_law_225 ?_
      refine m_mulN dL_law_227 ?_
      refine z_iconst (nI 1) (by decide) dL_law_228 ?_
      refine m_addN dL_law_229 ?_
      refine z_aload_n rfl rfl dL_law_230 ?_
      refine z_iload rfl dL_law_231 ?_
      obtain ⟨v233, hc233⟩ := ct_L_cell (E := E) (μ := μ) (J := J) (m := 11) (ν := zu ν 10 (2 * k) x1) hE (k := 10 + k) (by omega)
      refine z_callS (as := [.ref (0), .int (nI (10 + k))]) hc233 ko_L_cell kl_L_53 rfl rfl ⟨by decide, by decide, by show u + 0 + 0 + 0 ≤ 600086; omega, by show us + 0 + 0 + 0 ≤ 7301442; omega⟩ (Nat.le_of_ble_eq_true rfl) rfl dL_law_233 ?_
      show zV true E kL_law 0 o 236 (.ref (0) :: .ref (1) :: .ref (J 0) :: .ref (J 1) :: .ref (J 2) :: .ref (J 3) :: .ref (J 4) :: .ref (J 5) :: .ref (J 6) :: .ref (J 7) :: .ref (J 8) :: .int (nI (10 + k)) :: .ref (J 9) :: .ref (J 10) :: .int (nI k) :: .null :: .null :: .null :: .null :: .null :: .null :: .null :: .null :: .null :: .null :: .null :: .null :: .null :: .null :: .null :: .null :: .null :: .null :: []) [.int (v233), .int (nI ((2 * k) + 1)), .ref (J 10)] (zm μ (J, 11, (zu ν 10 (2 * k) x1))) (u + 0 + 0 + 0) (us + 0 + 0 + 0)
      refine z_bipush (nI 8) (by decide) dL_law_236 ?_
      refine z_ishr dL_law_238 ?_
      refine z_bipush (nI 61) (by decide) dL_law_239 ?_
      obtain ⟨k241, hk241, hl241⟩ := ct_L_low (E := E) (μ := μ) (J := J) (m := 11) (ν := zu ν 10 (2 * k) x1) (v233 >>> ((nI 8) &&& 31)) (n := 61) (by omega) (by omega)
      refine z_callS (as := [.int (v233 >>> ((nI 8) &&& 31)), .int (nI 61)]) hl241 ko_L_low kl_L_57 rfl rfl ⟨by decide, by decide, by show u + 0 + 0 + 0 + 0 ≤ 600086; omega, by show us + 0 + 0 + 0 + 0 ≤ 7301442; omega⟩ (Nat.le_of_ble_eq_true rfl) rfl dL_law_241 ?_
      show zV true E kL_law 0 o 244 (.ref (0) :: .ref (1) :: .ref (J 0) :: .ref (J 1) :: .ref (J 2) :: .ref (J 3) :: .ref (J 4) :: .ref (J 5) :: .ref (J 6) :: .ref (J 7) :: .ref (J 8) :: .int (nI (10 + k)) :: .ref (J 9) :: .ref (J 10) :: .int (nI k) :: .null :: .null :: .null :: .null :: .null :: .null :: .null :: .null :: .null :: .null :: .null :: .null :: .null :: .null :: .null :: .null :: .null :: .null :: []) [.int (nI k241), .int (nI ((2 * k) + 1)), .ref (J 10)] (zm μ (J, 11, (zu ν 10 (2 * k) x1))) (u + 0 + 0 + 0 + 0) (us + 0 + 0 + 0 + 0)
      refine z_bipush (nI 30) (by decide) dL_law_244 ?_
      refine z_isub dL_law_246 ?_
      obtain ⟨y1, ey1⟩ : ∃ z, z = (nI k241) - (nI 30) := ⟨_, rfl⟩
      refine m_eqv (w := y1) ey1.symm ?_
      have by1 : rb 30 y1 := by rw [ey1]; exact rb_low hk241 (by omega) (by omega) (by omega)
      refine m_xast 10 ((2 * k) + 1) 4 rfl (by decide) rfl (by omega) (by decide) dL_law_247 ?_
      refine z_aload_n rfl rfl dL_law_248 ?_
      refine z_aload rfl dL_law_249 ?_
      refine z_iconst (nI 2) (by decide) dL_law_251 ?_
      refine z_iload rfl dL_law_252 ?_
      refine m_mulN dL_law_254 ?_
      refine m_xald 10 (2 * k) 4 rfl (by decide) rfl (by omega) (by decide) dL_law_255 ?_
      refine m_eqv (w := x1) (by rw [zu_o2 (by omega), zu_s]) ?_
      refine z_aload rfl dL_law_256 ?_
      refine z_iconst (nI 2) (by decide) dL_law_258 ?_
      refine z_iload rfl dL_law_259 ?_
      refine m_mulN dL_law_261 ?_
      refine z_iconst (nI 1) (by decide) dL_law_262 ?_
      refine m_addN dL_law_263 ?_
      refine m_xald 10 ((2 * k) + 1) 4 rfl (by decide) rfl (by omega) (by decide) dL_law_264 ?_
      refine m_eqv (w := y1) zu_s ?_
      refine z_callV (as := [.int (x1), .int (y1)]) (by have h := ct_X7_pilot (E := E) (μ := μ) (g := (J, 11, zu (zu ν 10 (2 * k) x1) 10 ((2 * k) + 1) y1)) (np := k) hI.2.2.2.2.1 (by omega) (x := x1) (y := y1); rw [if_neg (fun q => q ⟨zin_rb (by decide) bx, zin_rb (by decide) by1⟩), if_neg (fun q => q (by omega))] at h; exact h) ko_X7_pilot kl_L_64 rfl (zl_a rfl rfl) rfl rfl ⟨by decide, by decide, by show u + 0 + 0 + 0 + 0 + 1 ≤ 600086; omega, by show us + 0 + 0 + 0 + 0 + 6 ≤ 7301442; omega⟩ (Nat.le_of_ble_eq_true rfl) rfl dL_law_265 ?_
      show zV true E kL_law 0 o 268 (.ref (0) :: .ref (1) :: .ref (J 0) :: .ref (J 1) :: .ref (J 2) :: .ref (J 3) :: .ref (J 4) :: .ref (J 5) :: .ref (J 6) :: .ref (J 7) :: .ref (J 8) :: .int (nI (10 + k)) :: .ref (J 9) :: .ref (J 10) :: .int (nI k) :: .null :: .null :: .null :: .null :: .null :: .null :: .null :: .null :: .null :: .null :: .null :: .null :: .null :: .null :: .null :: .null :: .null :: .null :: []) [.int (nI k)] (zm (zu (zu (zu μ 8 k x1) 9 k y1) 7 2 (nI (k + 1))) (J, 11, (zu (zu ν 10 (2 * k) x1) 10 ((2 * k) + 1) y1))) (u + 0 + 0 + 0 + 0 + 1) (us + 0 + 0 + 0 + 0 + 6)
      refine z_iload rfl dL_law_268 ?_
      refine z_icmp_eq 275 (by decide) dL_law_270 (fun _ => ?_) (fun h => absurd rfl h)
      refine z_iinc (nI (10 + k + 1)) rfl (zincN _ 1) (by decide) rfl dL_law_275 ?_
      refine z_iinc (nI (k + 1)) rfl (zincN _ 1) (by decide) rfl dL_law_278 ?_
      refine z_goto 195 (by decide) dL_law_281 ?_
      exact ih (2 - (k + 1)) (by omega) (k + 1) _ _ _ _ rfl (by omega) (pI_s hI bx by1) (by show u + 0 + 0 + 0 + 0 + 1 ≤ _; omega) (by show us + 0 + 0 + 0 + 0 + 6 ≤ 64 * (u + 0 + 0 + 0 + 0 + 1); omega)
set_option maxRecDepth 100000 in
set_option maxHeartbeats 4000000 in
theorem lp_Lr {E : Nat × (Nat → Int32)} (hE : E.1 ≤ 260) {o : zO} {J : Nat → Nat}  {nr : Nat} (h13 : nr ≤ 13) (kk : ∀ (μ ν : zMu) (rf rt : Nat → Nat) (u us : Nat), lI μ ν nr rf rt → u ≤ 900 → us ≤ 64 * u → zV true E kL_law 0 o 565 (.ref (0) :: .ref (1) :: .ref (J 0) :: .ref (J 1) :: .ref (J 2) :: .ref (J 3) :: .ref (J 4) :: .ref (J 5) :: .ref (J 6) :: .ref (J 7) :: .ref (J 8) :: .int (nI 12) :: .ref (J 9) :: .ref (J 10) :: .int (nI nr) :: .null :: .null :: .null :: .null :: .null :: .null :: .null :: .null :: .null :: .null :: .null :: .null :: .null :: .null :: .null :: .null :: .null :: .null :: []) [] (zm μ (J, 11, ν)) u us) : ∀ (n : Nat) (k : Nat) (μ ν : zMu) (rf rt : Nat → Nat) (u us : Nat), nr - k = n → k ≤ nr → lI μ ν k rf rt → u ≤ 600 + 20 * k → us ≤ 64 * u → zV true E kL_law 0 o 303 (.ref (0) :: .ref (1) :: .ref (J 0) :: .ref (J 1) :: .ref (J 2) :: .ref (J 3) :: .ref (J 4) :: .ref (J 5) :: .ref (J 6) :: .ref (J 7) :: .ref (J 8) :: .int (nI 12) :: .ref (J 9) :: .ref (J 10) :: .int (nI nr) :: .int (nI k) :: .null :: .null :: .null :: .null :: .null :: .null :: .null :: .null :: .null :: .null :: .null :: .null :: .null :: .null :: .null :: .null :: .null :: []) [] (zm μ (J, 11, ν)) u us := by
  intro n
  induction n using Nat.strongRecOn with
  | ind n ih =>
    intro k μ ν rf rt u us e hkn hI hu hus
    refine z_iload rfl dL_law_303 ?_
    refine z_iload rfl dL_law_305 ?_
    refine z_icmp_ge 565 (by decide) dL_law_307 (z_br (zcn (n := nr) (by omega) (k) (by omega)).2.2 (fun h307t => ?_)) (z_brn (zcn (n := nr) (by omega) (k) (by omega)).2.2 (fun h307f => ?_))
    · obtain rfl : nr = k := by omega
      refine z_fgt (.ref (0) :: .ref (1) :: .ref (J 0) :: .ref (J 1) :: .ref (J 2) :: .ref (J 3) :: .ref (J 4) :: .ref (J 5) :: .ref (J 6) :: .ref (J 7) :: .ref (J 8) :: .int (nI 12) :: .ref (J 9) :: .ref (J 10) :: .int (nI nr) :: .null :: .null :: .null :: .null :: .null :: .null :: .null :: .null :: .null :: .null :: .null :: .null :: .null :: .null :: .null :: .null :: .null :: .null :: []) ⟨Or.inl rfl, ⟨Or.inl rfl, ⟨Or.inl rfl, ⟨Or.inl rfl, ⟨Or.inl rfl, ⟨Or.inl rfl, ⟨Or.inl rfl, ⟨Or.inl rfl, ⟨Or.inl rfl, ⟨Or.inl rfl, ⟨Or.inl rfl, ⟨Or.inl rfl, ⟨Or.inl rfl, ⟨Or.inl rfl, ⟨Or.inl rfl, ⟨Or.inr rfl, ⟨Or.inl rfl, ⟨Or.inl rfl, ⟨Or.inl rfl, ⟨Or.inl rfl, ⟨Or.inl rfl, ⟨Or.inl rfl, ⟨Or.inl rfl, ⟨Or.inl rfl, ⟨Or.inl rfl, ⟨Or.inl rfl, ⟨Or.inl rfl, ⟨Or.inl rfl, ⟨Or.inl rfl, ⟨Or.inl rfl, ⟨Or.inl rfl, ⟨Or.inl rfl, ⟨Or.inl rfl, trivial⟩⟩⟩⟩⟩⟩⟩⟩⟩⟩⟩⟩⟩⟩⟩⟩⟩⟩⟩⟩⟩⟩⟩⟩⟩⟩⟩⟩⟩⟩⟩⟩⟩ ?_
      exact kk _ _ _ _ _ _ hI (by omega) hus
    · refine z_aload_n rfl rfl dL_law_310 ?_
      refine z_iload rfl dL_law_311 ?_
      refine z_iconst (nI 1) (by decide) dL_law_313 ?_
      refine m_addN dL_law_314 ?_
      refine z_iload rfl dL_law_315 ?_
      refine m_addN dL_law_317 ?_
      obtain ⟨v318, hc318⟩ := ct_L_cell (E := E) (μ := μ) (J := J) (m := 11) (ν := ν) hE (k := 13 + k) (by omega)
      refine z_callS (as := [.ref (0), .int (nI (13 + k))]) hc318 ko_L_cell kl_L_53 rfl rfl ⟨by decide, by decide, by show u + 0 ≤ 600086; omega, by show us + 0 ≤ 7301442; omega⟩ (Nat.le_of_ble_eq_true rfl) rfl dL_law_318 ?_
      show zV true E kL_law 0 o 321 (.ref (0) :: .ref (1) :: .ref (J 0) :: .ref (J 1) :: .ref (J 2) :: .ref (J 3) :: .ref (J 4) :: .ref (J 5) :: .ref (J 6) :: .ref (J 7) :: .ref (J 8) :: .int (nI 12) :: .ref (J 9) :: .ref (J 10) :: .int (nI nr) :: .int (nI k) :: .null :: .null :: .null :: .null :: .null :: .null :: .null :: .null :: .null :: .null :: .null :: .null :: .null :: .null :: .null :: .null :: .null :: []) [.int (v318)] (zm μ (J, 11, ν)) (u + 0) (us + 0)
      refine z_istore (by decide) rfl dL_law_321 ?_
      refine z_iload rfl dL_law_323 ?_
      refine z_bipush (nI 10) (by decide) dL_law_325 ?_
      obtain ⟨k327, hk327, hl327⟩ := ct_L_low (E := E) (μ := μ) (J := J) (m := 11) (ν := ν) (v318) (n := 10) (by omega) (by omega)
      refine z_callS (as := [.int (v318), .int (nI 10)]) hl327 ko_L_low kl_L_57 rfl rfl ⟨by decide, by decide, by show u + 0 + 0 ≤ 600086; omega, by show us + 0 + 0 ≤ 7301442; omega⟩ (Nat.le_of_ble_eq_true rfl) rfl dL_law_327 ?_
      show zV true E kL_law 0 o 330 (.ref (0) :: .ref (1) :: .ref (J 0) :: .ref (J 1) :: .ref (J 2) :: .ref (J 3) :: .ref (J 4) :: .ref (J 5) :: .ref (J 6) :: .ref (J 7) :: .ref (J 8) :: .int (nI 12) :: .ref (J 9) :: .ref (J 10) :: .int (nI nr) :: .int (nI k) :: .int (v318) :: .null :: .null :: .null :: .null :: .null :: .null :: .null :: .null :: .null :: .null :: .null :: .null :: .null :: .null :: .null :: .null :: []) [.int (nI k327)] (zm μ (J, 11, ν)) (u + 0 + 0) (us + 0 + 0)
      refine z_istore (by decide) rfl dL_law_330 ?_
      refine z_iload rfl dL_law_332 ?_
      refine z_iconst (nI 1) (by decide) dL_law_334 ?_
      refine m_addN dL_law_335 ?_
      refine z_iload rfl dL_law_336 ?_
      refine z_iconst (nI 4) (by decide) dL_law_338 ?_
      refine z_ishr dL_law_339 ?_
      refine z_bipush (nI 9) (by decide) dL_law_340 ?_
      obtain ⟨k342, hk342, hl342⟩ := ct_L_low (E := E) (μ := μ) (J := J) (m := 11) (ν := ν) (v318 >>> ((nI 4) &&& 31)) (n := 9) (by omega) (by omega)
      refine z_callS (as := [.int (v318 >>> ((nI 4) &&& 31)), .int (nI 9)]) hl342 ko_L_low kl_L_57 rfl rfl ⟨by decide, by decide, by show u + 0 + 0 + 0 ≤ 600086; omega, by show us + 0 + 0 + 0 ≤ 7301442; omega⟩ (Nat.le_of_ble_eq_true rfl) rfl dL_law_342 ?_
      show zV true E kL_law 0 o 345 (.ref (0) :: .ref (1) :: .ref (J 0) :: .ref (J 1) :: .ref (J 2) :: .ref (J 3) :: .ref (J 4) :: .ref (J 5) :: .ref (J 6) :: .ref (J 7) :: .ref (J 8) :: .int (nI 12) :: .ref (J 9) :: .ref (J 10) :: .int (nI nr) :: .int (nI k) :: .int (v318) :: .int (nI k327) :: .null :: .null :: .null :: .null :: .null :: .null :: .null :: .null :: .null :: .null :: .null :: .null :: .null :: .null :: .null :: []) [.int (nI k342), .int (nI (k327 + 1))] (zm μ (J, 11, ν)) (u + 0 + 0 + 0) (us + 0 + 0 + 0)
      refine m_addN dL_law_345 ?_
      refine z_bipush (nI 10) (by decide) dL_law_346 ?_
      refine m_remN (by omega) (by omega) (by omega) dL_law_348 ?_
      obtain ⟨t, et⟩ : ∃ z, z = ((k327 + 1) + k342) % 10 := ⟨_, rfl⟩
      refine m_eqv (w := nI t) (by rw [et]) ?_
      have ht : t < 10 := by omega
      have hft : ¬ k327 = t := by omega
      refine z_istore (by decide) rfl dL_law_349 ?_
      refine z_iload rfl dL_law_351 ?_
      refine z_bipush (nI 8) (by decide) dL_law_353 ?_
      refine z_ishr dL_law_355 ?_
      refine z_iconst (nI 2) (by decide) dL_law_356 ?_
      obtain ⟨k357, hk357, hl357⟩ := ct_L_low (E := E) (μ := μ) (J := J) (m := 11) (ν := ν) (v318 >>> ((nI 8) &&& 31)) (n := 2) (by omega) (by omega)
      refine z_callS (as := [.int (v318 >>> ((nI 8) &&& 31)), .int (nI 2)]) hl357 ko_L_low kl_L_57 rfl rfl ⟨by decide, by decide, by show u + 0 + 0 + 0 + 0 ≤ 600086; omega, by show us + 0 + 0 + 0 + 0 ≤ 7301442; omega⟩ (Nat.le_of_ble_eq_true rfl) rfl dL_law_357 ?_
      show zV true E kL_law 0 o 360 (.ref (0) :: .ref (1) :: .ref (J 0) :: .ref (J 1) :: .ref (J 2) :: .ref (J 3) :: .ref (J 4) :: .ref (J 5) :: .ref (J 6) :: .ref (J 7) :: .ref (J 8) :: .int (nI 12) :: .ref (J 9) :: .ref (J 10) :: .int (nI nr) :: .int (nI k) :: .int (v318) :: .int (nI k327) :: .int (nI t) :: .null :: .null :: .null :: .null :: .null :: .null :: .null :: .null :: .null :: .null :: .null :: .null :: .null :: .null :: []) [.int (nI k357)] (zm μ (J, 11, ν)) (u + 0 + 0 + 0 + 0) (us + 0 + 0 + 0 + 0)
      refine z_istore (by decide) rfl dL_law_360 ?_
      refine z_aload rfl dL_law_362 ?_
      refine z_iload rfl dL_law_364 ?_
      refine m_xald 4 (t) 64 rfl (by decide) rfl (by omega) (by decide) dL_law_366 ?_
      refine z_aload rfl dL_law_367 ?_
      refine z_iload rfl dL_law_369 ?_
      refine m_xald 4 (k327) 64 rfl (by decide) rfl (by omega) (by decide) dL_law_371 ?_
      refine z_isub dL_law_372 ?_
      refine z_istore (by decide) rfl dL_law_373 ?_
      refine z_aload rfl dL_law_375 ?_
      refine z_bipush (nI 10) (by decide) dL_law_377 ?_
      refine z_iload rfl dL_law_379 ?_
      refine m_addN dL_law_381 ?_
      refine m_xald 4 (10 + t) 64 rfl (by decide) rfl (by omega) (by decide) dL_law_382 ?_
      refine z_aload rfl dL_law_383 ?_
      refine z_bipush (nI 10) (by decide) dL_law_385 ?_
      refine z_iload rfl dL_law_387 ?_
      refine m_addN dL_law_389 ?_
      refine m_xald 4 (10 + k327) 64 rfl (by decide) rfl (by omega) (by decide) dL_law_390 ?_
      refine z_isub dL_law_391 ?_
      refine z_istore (by decide) rfl dL_law_392 ?_
      refine z_iload rfl dL_law_394 ?_
      refine z_iload rfl dL_law_396 ?_
      refine z_aload rfl dL_law_398 ?_
      refine z_iconst (nI 2) (by decide) dL_law_400 ?_
      refine z_iload rfl dL_law_401 ?_
      refine m_mulN dL_law_403 ?_
      refine m_xald 10 (2 * k357) 4 rfl (by decide) rfl (by omega) (by decide) dL_law_404 ?_
      refine z_imul dL_law_405 ?_
      refine z_bipush (nI 100) (by decide) dL_law_406 ?_
      refine z_idiv (by decide) dL_law_408 ?_
      refine z_isub dL_law_409 ?_
      refine m_eqv (w := rX ν k357 k327 t) rfl ?_
      refine z_istore (by decide) rfl dL_law_410 ?_
      refine z_iload rfl dL_law_412 ?_
      refine z_iload rfl dL_law_414 ?_
      refine z_aload rfl dL_law_416 ?_
      refine z_iconst (nI 2) (by decide) dL_law_418 ?_
      refine z_iload rfl dL_law_419 ?_
      refine m_mulN dL_law_421 ?_
      refine m_xald 10 (2 * k357) 4 rfl (by decide) rfl (by omega) (by decide) dL_law_422 ?_
      refine z_imul dL_law_423 ?_
      refine z_bipush (nI 100) (by decide) dL_law_424 ?_
      refine z_idiv (by decide) dL_law_426 ?_
      refine z_iadd dL_law_427 ?_
      refine m_eqv (w := rY9 ν k357 k327 t) rfl ?_
      refine z_istore (by decide) rfl dL_law_428 ?_
      refine z_aload rfl dL_law_430 ?_
      refine z_iconst (nI 4) (by decide) dL_law_432 ?_
      refine z_iload rfl dL_law_433 ?_
      refine m_mulN dL_law_435 ?_
      refine z_iload rfl dL_law_436 ?_
      refine m_xast 9 (4 * k) 64 rfl (by decide) rfl (by omega) (by decide) dL_law_438 ?_
      refine z_aload rfl dL_law_439 ?_
      refine z_iconst (nI 4) (by decide) dL_law_441 ?_
      refine z_iload rfl dL_law_442 ?_
      refine m_mulN dL_law_444 ?_
      refine z_iconst (nI 1) (by decide) dL_law_445 ?_
      refine m_addN dL_law_446 ?_
      refine z_iload rfl dL_law_447 ?_
      refine m_xast 9 ((4 * k) + 1) 64 rfl (by decide) rfl (by omega) (by decide) dL_law_449 ?_
      refine z_aload rfl dL_law_450 ?_
      refine z_iconst (nI 4) (by decide) dL_law_452 ?_
      refine z_iload rfl dL_law_453 ?_
      refine m_mulN dL_law_455 ?_
      refine z_iconst (nI 2) (by decide) dL_law_456 ?_
      refine m_addN dL_law_457 ?_
      refine z_iload rfl dL_law_458 ?_
      refine z_iload rfl dL_law_460 ?_
      refine z_aload rfl dL_law_462 ?_
      refine z_iconst (nI 2) (by decide) dL_law_464 ?_
      refine z_iload rfl dL_law_465 ?_
      refine m_mulN dL_law_467 ?_
      refine z_iconst (nI 1) (by decide) dL_law_468 ?_
      refine m_addN dL_law_469 ?_
      refine m_xald 10 ((2 * k357) + 1) 4 rfl (by decide) rfl (by omega) (by decide) dL_law_470 ?_
      refine m_eqv (w := ν 10 ((2 * k357) + 1)) (by repeat rw [zu_o (by decide)]) ?_
      refine z_imul dL_law_471 ?_
      refine z_bipush (nI 100) (by decide) dL_law_472 ?_
      refine z_idiv (by decide) dL_law_474 ?_
      refine z_iadd dL_law_475 ?_
      obtain ⟨a2, ea2⟩ : ∃ z, z = (rX ν k357 k327 t) + (((rX ν k357 k327 t) * (ν 10 ((2 * k357) + 1))) / (nI 100)) := ⟨_, rfl⟩
      refine m_eqv (w := a2) ea2.symm ?_
      refine m_xast 9 ((4 * k) + 2) 64 rfl (by decide) rfl (by omega) (by decide) dL_law_476 ?_
      refine z_aload rfl dL_law_477 ?_
      refine z_iconst (nI 4) (by decide) dL_law_479 ?_
      refine z_iload rfl dL_law_480 ?_
      refine m_mulN dL_law_482 ?_
      refine z_iconst (nI 3) (by decide) dL_law_483 ?_
      refine m_addN dL_law_484 ?_
      refine z_iload rfl dL_law_485 ?_
      refine z_iload rfl dL_law_487 ?_
      refine z_aload rfl dL_law_489 ?_
      refine z_iconst (nI 2) (by decide) dL_law_491 ?_
      refine z_iload rfl dL_law_492 ?_
      refine m_mulN dL_law_494 ?_
      refine z_iconst (nI 1) (by decide) dL_law_495 ?_
      refine m_addN dL_law_496 ?_
      refine m_xald 10 ((2 * k357) + 1) 4 rfl (by decide) rfl (by omega) (by decide) dL_law_497 ?_
      refine m_eqv (w := ν 10 ((2 * k357) + 1)) (by repeat rw [zu_o (by decide)]) ?_
      refine z_imul dL_law_498 ?_
      refine z_bipush (nI 100) (by decide) dL_law_499 ?_
      refine z_idiv (by decide) dL_law_501 ?_
      refine z_iadd dL_law_502 ?_
      obtain ⟨b2, eb2⟩ : ∃ z, z = (rY9 ν k357 k327 t) + (((rY9 ν k357 k327 t) * (ν 10 ((2 * k357) + 1))) / (nI 100)) := ⟨_, rfl⟩
      refine m_eqv (w := b2) eb2.symm ?_
      refine m_xast 9 ((4 * k) + 3) 64 rfl (by decide) rfl (by omega) (by decide) dL_law_503 ?_
      refine z_aload_n rfl rfl dL_law_504 ?_
      refine z_iload rfl dL_law_505 ?_
      refine z_iload rfl dL_law_507 ?_
      refine z_iload rfl dL_law_509 ?_
      have hX := rX_eq hI.1 hI.2.2.2.1 hk357 hk327 ht
      refine z_callV (as := [.int (nI k357), .int (nI k327), .int (nI t)]) (by have h := ct_X7_report (E := E) (μ := μ) (g := (J, 11, zu (zu (zu (zu ν 9 (4 * k) (nI k327)) 9 ((4 * k) + 1) (nI t)) 9 ((4 * k) + 2) a2) 9 ((4 * k) + 3) b2)) (np := 2) hI.2.2.2.2.1 (by omega) (nr := k) hI.2.2.2.2.2.1 (by omega) (q := k357) (f := k327) (t := t) (by omega) (by omega) (by omega); rw [if_neg hft, if_neg (fun q => q (by omega)), hX.1, hX.2.1, hX.2.2.1, ← ea2, ← eb2] at h; exact h) ko_X7_report kl_L_67 rfl (zl_a rfl rfl) rfl rfl ⟨by decide, by decide, by show u + 0 + 0 + 0 + 0 + 3 ≤ 600086; omega, by show us + 0 + 0 + 0 + 0 + 18 ≤ 7301442; omega⟩ (Nat.le_of_ble_eq_true rfl) rfl dL_law_511 ?_
      show zV true E kL_law 0 o 514 (.ref (0) :: .ref (1) :: .ref (J 0) :: .ref (J 1) :: .ref (J 2) :: .ref (J 3) :: .ref (J 4) :: .ref (J 5) :: .ref (J 6) :: .ref (J 7) :: .ref (J 8) :: .int (nI 12) :: .ref (J 9) :: .ref (J 10) :: .int (nI nr) :: .int (nI k) :: .int (v318) :: .int (nI k327) :: .int (nI t) :: .int (nI k357) :: .int ((ν 4 t) - (ν 4 k327)) :: .int ((ν 4 (10 + t)) - (ν 4 (10 + k327))) :: .int (rX ν k357 k327 t) :: .int (rY9 ν k357 k327 t) :: .null :: .null :: .null :: .null :: .null :: .null :: .null :: .null :: .null :: []) [.int (nI k)] (zm (zu (zu (zu (zu (zu μ 11 k (nI k327)) 12 k (nI t)) 13 k a2) 14 k b2) 10 4 (nI (k + 1))) (J, 11, (zu (zu (zu (zu ν 9 (4 * k) (nI k327)) 9 ((4 * k) + 1) (nI t)) 9 ((4 * k) + 2) a2) 9 ((4 * k) + 3) b2))) (u + 0 + 0 + 0 + 0 + 3) (us + 0 + 0 + 0 + 0 + 18)
      refine z_iload rfl dL_law_514 ?_
      refine z_icmp_ne 557 (by decide) dL_law_516 (fun h => absurd rfl h) (fun _ => ?_)
      refine z_aload_n rfl rfl dL_law_519 ?_
      refine z_iload rfl dL_law_520 ?_
      refine z_iconst (nI 1) (by decide) dL_law_522 ?_
      refine z_callV (as := [.int (nI k), .int (nI 1)]) (by have h := ct_X7_told1 (E := E) (μ := zu (zu (zu (zu (zu μ 11 k (nI k327)) 12 k (nI t)) 13 k a2) 14 k b2) 10 4 (nI (k + 1))) (g := (J, 11, zu (zu (zu (zu ν 9 (4 * k) (nI k327)) 9 ((4 * k) + 1) (nI t)) 9 ((4 * k) + 2) a2) 9 ((4 * k) + 3) b2)) (nr := k + 1) zu_s (by omega) (i := k) (by omega); rw [show (zu (zu (zu (zu (zu μ 11 k (nI k327)) 12 k (nI t)) 13 k a2) 14 k b2) 10 4 (nI (k + 1))) 13 k = a2 from by rw [zu_o (by decide), zu_o (by decide), zu_s]] at h; exact h) ko_X7_told kl_L_70 rfl (zl_a rfl rfl) rfl rfl ⟨by decide, by decide, by show u + 0 + 0 + 0 + 0 + 3 + 1 ≤ 600086; omega, by show us + 0 + 0 + 0 + 0 + 18 + 6 ≤ 7301442; omega⟩ (Nat.le_of_ble_eq_true rfl) rfl dL_law_523 ?_
      show zV true E kL_law 0 o 526 (.ref (0) :: .ref (1) :: .ref (J 0) :: .ref (J 1) :: .ref (J 2) :: .ref (J 3) :: .ref (J 4) :: .ref (J 5) :: .ref (J 6) :: .ref (J 7) :: .ref (J 8) :: .int (nI 12) :: .ref (J 9) :: .ref (J 10) :: .int (nI nr) :: .int (nI k) :: .int (v318) :: .int (nI k327) :: .int (nI t) :: .int (nI k357) :: .int ((ν 4 t) - (ν 4 k327)) :: .int ((ν 4 (10 + t)) - (ν 4 (10 + k327))) :: .int (rX ν k357 k327 t) :: .int (rY9 ν k357 k327 t) :: .null :: .null :: .null :: .null :: .null :: .null :: .null :: .null :: .null :: []) [.int (a2)] (zm (zu (zu (zu (zu (zu μ 11 k (nI k327)) 12 k (nI t)) 13 k a2) 14 k b2) 10 4 (nI (k + 1))) (J, 11, (zu (zu (zu (zu ν 9 (4 * k) (nI k327)) 9 ((4 * k) + 1) (nI t)) 9 ((4 * k) + 2) a2) 9 ((4 * k) + 3) b2))) (u + 0 + 0 + 0 + 0 + 3 + 1) (us + 0 + 0 + 0 + 0 + 18 + 6)
      refine z_aload rfl dL_law_526 ?_
      refine z_iconst (nI 4) (by decide) dL_law_528 ?_
      refine z_iload rfl dL_law_529 ?_
      refine m_mulN dL_law_531 ?_
      refine z_iconst (nI 2) (by decide) dL_law_532 ?_
      refine m_addN dL_law_533 ?_
      refine m_xald 9 ((4 * k) + 2) 64 rfl (by decide) rfl (by omega) (by decide) dL_law_534 ?_
      refine m_eqv (w := a2) (by rw [zu_o2 (by omega), zu_s]) ?_
      refine z_icmp_ne 557 (by decide) dL_law_535 (fun h => absurd rfl h) (fun _ => ?_)
      refine z_aload_n rfl rfl dL_law_538 ?_
      refine z_iload rfl dL_law_539 ?_
      refine z_iconst (nI 0) (by decide) dL_law_541 ?_
      refine z_callV (as := [.int (nI k), .int (nI 0)]) (by have h := ct_X7_told0 (E := E) (μ := zu (zu (zu (zu (zu μ 11 k (nI k327)) 12 k (nI t)) 13 k a2) 14 k b2) 10 4 (nI (k + 1))) (g := (J, 11, zu (zu (zu (zu ν 9 (4 * k) (nI k327)) 9 ((4 * k) + 1) (nI t)) 9 ((4 * k) + 2) a2) 9 ((4 * k) + 3) b2)) (nr := k + 1) zu_s (by omega) (i := k) (by omega); rw [show (zu (zu (zu (zu (zu μ 11 k (nI k327)) 12 k (nI t)) 13 k a2) 14 k b2) 10 4 (nI (k + 1))) 14 k = b2 from by rw [zu_o (by decide), zu_s]] at h; exact h) ko_X7_told kl_L_70 rfl (zl_a rfl rfl) rfl rfl ⟨by decide, by decide, by show u + 0 + 0 + 0 + 0 + 3 + 1 + 1 ≤ 600086; omega, by show us + 0 + 0 + 0 + 0 + 18 + 6 + 6 ≤ 7301442; omega⟩ (Nat.le_of_ble_eq_true rfl) rfl dL_law_542 ?_
      show zV true E kL_law 0 o 545 (.ref (0) :: .ref (1) :: .ref (J 0) :: .ref (J 1) :: .ref (J 2) :: .ref (J 3) :: .ref (J 4) :: .ref (J 5) :: .ref (J 6) :: .ref (J 7) :: .ref (J 8) :: .int (nI 12) :: .ref (J 9) :: .ref (J 10) :: .int (nI nr) :: .int (nI k) :: .int (v318) :: .int (nI k327) :: .int (nI t) :: .int (nI k357) :: .int ((ν 4 t) - (ν 4 k327)) :: .int ((ν 4 (10 + t)) - (ν 4 (10 + k327))) :: .int (rX ν k357 k327 t) :: .int (rY9 ν k357 k327 t) :: .null :: .null :: .null :: .null :: .null :: .null :: .null :: .null :: .null :: []) [.int (b2)] (zm (zu (zu (zu (zu (zu μ 11 k (nI k327)) 12 k (nI t)) 13 k a2) 14 k b2) 10 4 (nI (k + 1))) (J, 11, (zu (zu (zu (zu ν 9 (4 * k) (nI k327)) 9 ((4 * k) + 1) (nI t)) 9 ((4 * k) + 2) a2) 9 ((4 * k) + 3) b2))) (u + 0 + 0 + 0 + 0 + 3 + 1 + 1) (us + 0 + 0 + 0 + 0 + 18 + 6 + 6)
      refine z_aload rfl dL_law_545 ?_
      refine z_iconst (nI 4) (by decide) dL_law_547 ?_
      refine z_iload rfl dL_law_548 ?_
      refine m_mulN dL_law_550 ?_
      refine z_iconst (nI 3) (by decide) dL_law_551 ?_
      refine m_addN dL_law_552 ?_
      refine m_xald 9 ((4 * k) + 3) 64 rfl (by decide) rfl (by omega) (by decide) dL_law_553 ?_
      refine m_eqv (w := b2) zu_s ?_
      refine z_icmp_eq 559 (by decide) dL_law_554 (fun _ => ?_) (fun h => absurd rfl h)
      refine z_iinc (nI (k + 1)) rfl (zincN _ 1) (by decide) rfl dL_law_559 ?_
      refine z_goto 303 (by decide) dL_law_562 ?_
      refine z_fgt (.ref (0) :: .ref (1) :: .ref (J 0) :: .ref (J 1) :: .ref (J 2) :: .ref (J 3) :: .ref (J 4) :: .ref (J 5) :: .ref (J 6) :: .ref (J 7) :: .ref (J 8) :: .int (nI 12) :: .ref (J 9) :: .ref (J 10) :: .int (nI nr) :: .int (nI (k + 1)) :: .null :: .null :: .null :: .null :: .null :: .null :: .null :: .null :: .null :: .null :: .null :: .null :: .null :: .null :: .null :: .null :: .null :: []) ⟨Or.inl rfl, ⟨Or.inl rfl, ⟨Or.inl rfl, ⟨Or.inl rfl, ⟨Or.inl rfl, ⟨Or.inl rfl, ⟨Or.inl rfl, ⟨Or.inl rfl, ⟨Or.inl rfl, ⟨Or.inl rfl, ⟨Or.inl rfl, ⟨Or.inl rfl, ⟨Or.inl rfl, ⟨Or.inl rfl, ⟨Or.inl rfl, ⟨Or.inl rfl, ⟨Or.inr rfl, ⟨Or.inr rfl, ⟨Or.inr rfl, ⟨Or.inr rfl, ⟨Or.inr rfl, ⟨Or.inr rfl, ⟨Or.inr rfl, ⟨Or.inr rfl, ⟨Or.inl rfl, ⟨Or.inl rfl, ⟨Or.inl rfl, ⟨Or.inl rfl, ⟨Or.inl rfl, ⟨Or.inl rfl, ⟨Or.inl rfl, ⟨Or.inl rfl, ⟨Or.inl rfl, trivial⟩⟩⟩⟩⟩⟩⟩⟩⟩⟩⟩⟩⟩⟩⟩⟩⟩⟩⟩⟩⟩⟩⟩⟩⟩⟩⟩⟩⟩⟩⟩⟩⟩ ?_
      exact ih (nr - (k + 1)) (by omega) (k + 1) _ _ (zup rf k k327) (zup rt k t) _ _ rfl (by omega) (lI_s hI hk327 ht (by rw [ea2]; exact hX.2.2.2.1) (by rw [eb2]; exact hX.2.2.2.2)) (by show u + 0 + 0 + 0 + 0 + 3 + 1 + 1 ≤ _; omega) (by show us + 0 + 0 + 0 + 0 + 18 + 6 + 6 ≤ 64 * (u + 0 + 0 + 0 + 0 + 3 + 1 + 1); omega)
theorem read0_n {ν : zMu} {i : Nat} : read0 ν (i + 1) = zu (read0 ν i) 8 i (nI (i % 16)) := by
  unfold read0
  rw [zit_s, Nat.zero_add]
set_option maxRecDepth 100000 in
set_option maxHeartbeats 4000000 in
theorem lp_rd {E : Nat × (Nat → Int32)} (hE : E.1 ≤ 260) {o : zO} {J : Nat → Nat}  {μ ν : zMu} {nr u us : Nat} (kk : zV true E kL_law 0 o 594 (.ref (0) :: .ref (1) :: .ref (J 0) :: .ref (J 1) :: .ref (J 2) :: .ref (J 3) :: .ref (J 4) :: .ref (J 5) :: .ref (J 6) :: .ref (J 7) :: .ref (J 8) :: .int (nI 27) :: .ref (J 9) :: .ref (J 10) :: .int (nI nr) :: .null :: .null :: .null :: .null :: .null :: .null :: .null :: .null :: .null :: .null :: .null :: .null :: .null :: .null :: .null :: .null :: .null :: .null :: []) [] (zm μ (J, 11, (read0 ν 64))) u us) : ∀ (n : Nat) (i : Nat), 64 - i = n → i ≤ 64 → zV true E kL_law 0 o 571 (.ref (0) :: .ref (1) :: .ref (J 0) :: .ref (J 1) :: .ref (J 2) :: .ref (J 3) :: .ref (J 4) :: .ref (J 5) :: .ref (J 6) :: .ref (J 7) :: .ref (J 8) :: .int (nI 27) :: .ref (J 9) :: .ref (J 10) :: .int (nI nr) :: .int (nI i) :: .null :: .null :: .null :: .null :: .null :: .null :: .null :: .null :: .null :: .null :: .null :: .null :: .null :: .null :: .null :: .null :: .null :: []) [] (zm μ (J, 11, (read0 ν i))) u us := by
  intro n
  induction n using Nat.strongRecOn with
  | ind n ih =>
    intro i e h64
    refine z_iload rfl dL_law_571 ?_
    refine z_bipush (nI 64) (by decide) dL_law_573 ?_
    refine z_icmp_ge 594 (by decide) dL_law_575 (z_br (zcn (n := 64) (by omega) (i) (by omega)).2.2 (fun h575t => ?_)) (z_brn (zcn (n := 64) (by omega) (i) (by omega)).2.2 (fun h575f => ?_))
    · obtain rfl : i = 64 := by omega
      refine z_fgt (.ref (0) :: .ref (1) :: .ref (J 0) :: .ref (J 1) :: .ref (J 2) :: .ref (J 3) :: .ref (J 4) :: .ref (J 5) :: .ref (J 6) :: .ref (J 7) :: .ref (J 8) :: .int (nI 27) :: .ref (J 9) :: .ref (J 10) :: .int (nI nr) :: .null :: .null :: .null :: .null :: .null :: .null :: .null :: .null :: .null :: .null :: .null :: .null :: .null :: .null :: .null :: .null :: .null :: .null :: []) ⟨Or.inl rfl, ⟨Or.inl rfl, ⟨Or.inl rfl, ⟨Or.inl rfl, ⟨Or.inl rfl, ⟨Or.inl rfl, ⟨Or.inl rfl, ⟨Or.inl rfl, ⟨Or.inl rfl, ⟨Or.inl rfl, ⟨Or.inl rfl, ⟨Or.inl rfl, ⟨Or.inl rfl, ⟨Or.inl rfl, ⟨Or.inl rfl, ⟨Or.inr rfl, ⟨Or.inl rfl, ⟨Or.inl rfl, ⟨Or.inl rfl, ⟨Or.inl rfl, ⟨Or.inl rfl, ⟨Or.inl rfl, ⟨Or.inl rfl, ⟨Or.inl rfl, ⟨Or.inl rfl, ⟨Or.inl rfl, ⟨Or.inl rfl, ⟨Or.inl rfl, ⟨Or.inl rfl, ⟨Or.inl rfl, ⟨Or.inl rfl, ⟨Or.inl rfl, ⟨Or.inl rfl, trivial⟩⟩⟩⟩⟩⟩⟩⟩⟩⟩⟩⟩⟩⟩⟩⟩⟩⟩⟩⟩⟩⟩⟩⟩⟩⟩⟩⟩⟩⟩⟩⟩⟩ ?_
      exact kk
    · refine z_aload rfl dL_law_578 ?_
      refine z_iload rfl dL_law_580 ?_
      refine z_iload rfl dL_law_582 ?_
      refine z_bipush (nI 16) (by decide) dL_law_584 ?_
      refine m_remN (by omega) (by omega) (by omega) dL_law_586 ?_
      refine m_xast 8 (i) 64 rfl (by decide) rfl (by omega) (by decide) dL_law_587 ?_
      refine z_iinc (nI (i + 1)) rfl (zincN _ 1) (by decide) rfl dL_law_588 ?_
      refine z_goto 571 (by decide) dL_law_591 ?_
      rw [← read0_n]
      exact ih (64 - (i + 1)) (by omega) (i + 1) rfl (by omega)
set_option maxRecDepth 100000 in
set_option maxHeartbeats 4000000 in
theorem law_init {E : Nat × (Nat → Int32)} (hE : E.1 ≤ 260) {o : zO} (kk : ∀ (J : Nat → Nat) (μ ν : zMu) (nr : Nat) (rf rt : Nat → Nat) (u us : Nat), iv μ ν 0 nr 0 rf rt → u ≤ 1000 → us ≤ 64 * u → zV true E kL_law 0 o 603 (.ref (0) :: .ref (1) :: .ref (J 0) :: .ref (J 1) :: .ref (J 2) :: .ref (J 3) :: .ref (J 4) :: .ref (J 5) :: .ref (J 6) :: .ref (J 7) :: .ref (J 8) :: .int (nI 27) :: .ref (J 9) :: .ref (J 10) :: .int (nI nr) :: .int (nI 0) :: .int (nI 0) :: .int (nI 0) :: .null :: .null :: .null :: .null :: .null :: .null :: .null :: .null :: .null :: .null :: .null :: .null :: .null :: .null :: .null :: []) [] (zm μ (J, 11, ν)) u us) : zV true E kL_law 0 o 0 (.ref (0) :: .null :: .null :: .null :: .null :: .null :: .null :: .null :: .null :: .null :: .null :: .null :: .null :: .null :: .null :: .null :: .null :: .null :: .null :: .null :: .null :: .null :: .null :: .null :: .null :: .null :: .null :: .null :: .null :: .null :: .null :: .null :: .null :: []) [] (zc (fun _ _ => 0) (fun _ _ => 0) 0) 0 0 := by
  refine law_pro (fun J1 => ?_)
  refine lp_C hE (J := J1) (fun μ ν u us hI hu hus => ?_) _ 0 _ _ _ _ rfl (by omega) cI_0 (by omega) (by omega)
  refine sc_P hI hu hus (fun J => ?_)
  refine lp_P hE (fun μ ν u us hI hu hus => ?_) _ 0 _ _ _ _ rfl (by omega) (pI_0 hI) (by show u + 1 + 1 ≤ _; omega) (by show us + 64 + 4 ≤ 64 * (u + 1 + 1); omega)
  refine z_bipush (nI 6) (by decide) dL_law_284 ?_
  refine z_aload_n rfl rfl dL_law_286 ?_
  refine z_iload rfl dL_law_287 ?_
  obtain ⟨v289, hc289⟩ := ct_L_cell (E := E) (μ := μ) (J := J) (m := 11) (ν := ν) hE (k := 12) (by omega)
  refine z_callS (as := [.ref (0), .int (nI 12)]) hc289 ko_L_cell kl_L_53 rfl rfl ⟨by decide, by decide, by show u + 0 ≤ 600086; omega, by show us + 0 ≤ 7301442; omega⟩ (Nat.le_of_ble_eq_true rfl) rfl dL_law_289 ?_
  show zV true E kL_law 0 o 292 (.ref (0) :: .ref (1) :: .ref (J 0) :: .ref (J 1) :: .ref (J 2) :: .ref (J 3) :: .ref (J 4) :: .ref (J 5) :: .ref (J 6) :: .ref (J 7) :: .ref (J 8) :: .int (nI 12) :: .ref (J 9) :: .ref (J 10) :: .null :: .null :: .null :: .null :: .null :: .null :: .null :: .null :: .null :: .null :: .null :: .null :: .null :: .null :: .null :: .null :: .null :: .null :: .null :: []) [.int (v289), .int (nI 6)] (zm μ (J, 11, ν)) (u + 0) (us + 0)
  refine z_bipush (nI 8) (by decide) dL_law_292 ?_
  obtain ⟨k294, hk294, hl294⟩ := ct_L_low (E := E) (μ := μ) (J := J) (m := 11) (ν := ν) (v289) (n := 8) (by omega) (by omega)
  refine z_callS (as := [.int (v289), .int (nI 8)]) hl294 ko_L_low kl_L_57 rfl rfl ⟨by decide, by decide, by show u + 0 + 0 ≤ 600086; omega, by show us + 0 + 0 ≤ 7301442; omega⟩ (Nat.le_of_ble_eq_true rfl) rfl dL_law_294 ?_
  show zV true E kL_law 0 o 297 (.ref (0) :: .ref (1) :: .ref (J 0) :: .ref (J 1) :: .ref (J 2) :: .ref (J 3) :: .ref (J 4) :: .ref (J 5) :: .ref (J 6) :: .ref (J 7) :: .ref (J 8) :: .int (nI 12) :: .ref (J 9) :: .ref (J 10) :: .null :: .null :: .null :: .null :: .null :: .null :: .null :: .null :: .null :: .null :: .null :: .null :: .null :: .null :: .null :: .null :: .null :: .null :: .null :: []) [.int (nI k294), .int (nI 6)] (zm μ (J, 11, ν)) (u + 0 + 0) (us + 0 + 0)
  refine m_addN dL_law_297 ?_
  refine z_istore (by decide) rfl dL_law_298 ?_
  refine z_iconst (nI 0) (by decide) dL_law_300 ?_
  refine z_istore (by decide) rfl dL_law_301 ?_
  refine z_fgt (.ref (0) :: .ref (1) :: .ref (J 0) :: .ref (J 1) :: .ref (J 2) :: .ref (J 3) :: .ref (J 4) :: .ref (J 5) :: .ref (J 6) :: .ref (J 7) :: .ref (J 8) :: .int (nI 12) :: .ref (J 9) :: .ref (J 10) :: .int (nI (6 + k294)) :: .int (nI 0) :: .null :: .null :: .null :: .null :: .null :: .null :: .null :: .null :: .null :: .null :: .null :: .null :: .null :: .null :: .null :: .null :: .null :: []) ⟨Or.inl rfl, ⟨Or.inl rfl, ⟨Or.inl rfl, ⟨Or.inl rfl, ⟨Or.inl rfl, ⟨Or.inl rfl, ⟨Or.inl rfl, ⟨Or.inl rfl, ⟨Or.inl rfl, ⟨Or.inl rfl, ⟨Or.inl rfl, ⟨Or.inl rfl, ⟨Or.inl rfl, ⟨Or.inl rfl, ⟨Or.inl rfl, ⟨Or.inl rfl, ⟨Or.inl rfl, ⟨Or.inl rfl, ⟨Or.inl rfl, ⟨Or.inl rfl, ⟨Or.inl rfl, ⟨Or.inl rfl, ⟨Or.inl rfl, ⟨Or.inl rfl, ⟨Or.inl rfl, ⟨Or.inl rfl, ⟨Or.inl rfl, ⟨Or.inl rfl, ⟨Or.inl rfl, ⟨Or.inl rfl, ⟨Or.inl rfl, ⟨Or.inl rfl, ⟨Or.inl rfl, trivial⟩⟩⟩⟩⟩⟩⟩⟩⟩⟩⟩⟩⟩⟩⟩⟩⟩⟩⟩⟩⟩⟩⟩⟩⟩⟩⟩⟩⟩⟩⟩⟩⟩ ?_
  refine lp_Lr hE (nr := 6 + k294) (by omega) (fun μ ν rf rt u us hI hu hus => ?_) _ 0 _ _ (fun _ => 0) (fun _ => 0) _ _ rfl (by omega) (lI_0 hI) (by show u + 0 + 0 ≤ _; omega) (by show us + 0 + 0 ≤ 64 * (u + 0 + 0); omega)
  refine z_iinc (nI 27) rfl (zincN _ 15) (by decide) rfl dL_law_565 ?_
  refine z_iconst (nI 0) (by decide) dL_law_568 ?_
  refine z_istore (by decide) rfl dL_law_569 ?_
  refine z_fgt (.ref (0) :: .ref (1) :: .ref (J 0) :: .ref (J 1) :: .ref (J 2) :: .ref (J 3) :: .ref (J 4) :: .ref (J 5) :: .ref (J 6) :: .ref (J 7) :: .ref (J 8) :: .int (nI 27) :: .ref (J 9) :: .ref (J 10) :: .int (nI (6 + k294)) :: .int (nI 0) :: .null :: .null :: .null :: .null :: .null :: .null :: .null :: .null :: .null :: .null :: .null :: .null :: .null :: .null :: .null :: .null :: .null :: []) ⟨Or.inl rfl, ⟨Or.inl rfl, ⟨Or.inl rfl, ⟨Or.inl rfl, ⟨Or.inl rfl, ⟨Or.inl rfl, ⟨Or.inl rfl, ⟨Or.inl rfl, ⟨Or.inl rfl, ⟨Or.inl rfl, ⟨Or.inl rfl, ⟨Or.inl rfl, ⟨Or.inl rfl, ⟨Or.inl rfl, ⟨Or.inl rfl, ⟨Or.inl rfl, ⟨Or.inl rfl, ⟨Or.inl rfl, ⟨Or.inl rfl, ⟨Or.inl rfl, ⟨Or.inl rfl, ⟨Or.inl rfl, ⟨Or.inl rfl, ⟨Or.inl rfl, ⟨Or.inl rfl, ⟨Or.inl rfl, ⟨Or.inl rfl, ⟨Or.inl rfl, ⟨Or.inl rfl, ⟨Or.inl rfl, ⟨Or.inl rfl, ⟨Or.inl rfl, ⟨Or.inl rfl, trivial⟩⟩⟩⟩⟩⟩⟩⟩⟩⟩⟩⟩⟩⟩⟩⟩⟩⟩⟩⟩⟩⟩⟩⟩⟩⟩⟩⟩⟩⟩⟩⟩⟩ ?_
  refine lp_rd hE ?_ _ 0 rfl (by omega)
  refine z_iconst (nI 0) (by decide) dL_law_594 ?_
  refine z_istore (by decide) rfl dL_law_595 ?_
  refine z_iconst (nI 0) (by decide) dL_law_597 ?_
  refine z_istore (by decide) rfl dL_law_598 ?_
  refine z_iconst (nI 0) (by decide) dL_law_600 ?_
  refine z_istore (by decide) rfl dL_law_601 ?_
  exact kk J _ _ _ _ _ _ _ (iv_0 hI (by omega) (by omega)) (by omega) hus
