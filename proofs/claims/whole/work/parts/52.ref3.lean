/-! the reference: rounds (printed by wip/whole/gen_i.py) -/
set_option maxRecDepth 100000 in
set_option maxHeartbeats 4000000 in
theorem ct_X8_gives {E : Nat × (Nat → Int32)} {μ : Nat → Nat → Int32} {g : Int64} {nc : Nat} (hnc : μ 117 13 = nI nc) (hn : nc < 12) {p f : Nat} (hp : p < 24) (hf : f < 24) (x y : Int32) : zCt E kX8_gives [.ref (117), .int (nI p), .int (nI f), .int (x), .int (y)] (zm μ g) (.inl none, zm (dgv nc p f x y μ) g) := by
  refine zCt_of ko_X8_gives (Nat.le_of_ble_eq_true rfl) (zas_r (zas_i (zas_i (zas_i (zas_i zas_0))))) ⟨Nat.le_refl _, fun h => absurd h (Nat.lt_irrefl _)⟩ (Nat.le_of_ble_eq_true rfl) ?_
  show zV false E kX8_gives 145 _ 0 [.ref (117), .int (nI p), .int (nI f), .int (x), .int (y)] [] (zm μ g) 0 0
  refine z_aload_n rfl rfl dX8_gives_0 ?_
  refine m_getR (141) kf_X8_80 (zl_a rfl rfl) rfl rfl (by decide) dX8_gives_1 ?_
  refine z_iload_n rfl rfl dX8_gives_4 ?_
  refine m_zald (p) (zl_a rfl rfl) rfl (by omega) (by decide) dX8_gives_5 ?_
  refine z_if_ne 77 (by decide) dX8_gives_6 (fun h1 => ?_) (fun h2 => ?_)
  · exact z_vret (by rw [dgv, if_neg (fun q => h1 q.1)]) rfl (by decide) (by decide) dX8_gives_77
  · refine z_aload_n rfl rfl dX8_gives_9 ?_
    refine m_getR (141) kf_X8_80 (zl_a rfl rfl) rfl rfl (by decide) dX8_gives_10 ?_
    refine z_iload_n rfl rfl dX8_gives_13 ?_
    refine m_zald (f) (zl_a rfl rfl) rfl (by omega) (by decide) dX8_gives_14 ?_
    refine z_if_eq 77 (by decide) dX8_gives_15 (fun h3 => ?_) (fun h4 => ?_)
    · exact z_vret (by rw [dgv, if_neg (fun q => q.2 h3)]) rfl (by decide) (by decide) dX8_gives_77
    · refine z_aload_n rfl rfl dX8_gives_18 ?_
      refine m_getR (142) kf_X8_83 (zl_a rfl rfl) rfl rfl (by decide) dX8_gives_19 ?_
      refine z_iload_n rfl rfl dX8_gives_22 ?_
      refine z_dup2 rfl rfl dX8_gives_23 ?_
      refine m_iald (p) (zl_a rfl rfl) rfl (by omega) (by decide) dX8_gives_24 ?_
      refine z_aload_n rfl rfl dX8_gives_25 ?_
      refine m_getR (131) kf_X8_50 (zl_a rfl rfl) rfl rfl (by decide) dX8_gives_26 ?_
      refine z_aload_n rfl rfl dX8_gives_29 ?_
      refine m_getI kf_X8_100 (zl_a rfl rfl) rfl dX8_gives_30 ?_
      refine m_eqv (w := nI nc) (hnc) ?_
      refine z_iload_n rfl rfl dX8_gives_33 ?_
      refine z_callS (as := [.int (nI nc), .int (nI f)]) (ct_X8_spot (nc) (f)) ko_X8_spot kl_X8_122 rfl rfl ⟨by decide, by decide, by decide, by decide⟩ (Nat.le_of_ble_eq_true rfl) rfl dX8_gives_34 ?_
      refine m_iald (24 * nc + f) (zl_a rfl rfl) rfl (by omega) (by decide) dX8_gives_37 ?_
      refine z_iload_n rfl rfl dX8_gives_38 ?_
      refine z_iadd dX8_gives_39 ?_
      refine z_iadd dX8_gives_40 ?_
      refine m_iast (p) (zl_a rfl rfl) rfl (by omega) (by decide) dX8_gives_41 ?_
      refine z_aload_n rfl rfl dX8_gives_42 ?_
      refine m_getR (143) kf_X8_86 (zl_a rfl rfl) rfl rfl (by decide) dX8_gives_43 ?_
      refine z_iload_n rfl rfl dX8_gives_46 ?_
      refine z_dup2 rfl rfl dX8_gives_47 ?_
      refine m_iald (p) (zl_a rfl rfl) rfl (by omega) (by decide) dX8_gives_48 ?_
      refine z_aload_n rfl rfl dX8_gives_49 ?_
      refine m_getR (132) kf_X8_53 (zl_a rfl rfl) rfl rfl (by decide) dX8_gives_50 ?_
      refine z_aload_n rfl rfl dX8_gives_53 ?_
      refine m_getI kf_X8_100 (zl_a rfl rfl) rfl dX8_gives_54 ?_
      refine m_eqv (w := nI nc) (hnc) ?_
      refine z_iload_n rfl rfl dX8_gives_57 ?_
      refine z_callS (as := [.int (nI nc), .int (nI f)]) (ct_X8_spot (nc) (f)) ko_X8_spot kl_X8_122 rfl rfl ⟨by decide, by decide, by decide, by decide⟩ (Nat.le_of_ble_eq_true rfl) rfl dX8_gives_58 ?_
      refine m_iald (24 * nc + f) (zl_a rfl rfl) rfl (by omega) (by decide) dX8_gives_61 ?_
      refine z_iload rfl dX8_gives_62 ?_
      refine z_iadd dX8_gives_64 ?_
      refine z_iadd dX8_gives_65 ?_
      refine m_iast (p) (zl_a rfl rfl) rfl (by omega) (by decide) dX8_gives_66 ?_
      refine z_aload_n rfl rfl dX8_gives_67 ?_
      refine m_getR (144) kf_X8_89 (zl_a rfl rfl) rfl rfl (by decide) dX8_gives_68 ?_
      refine z_iload_n rfl rfl dX8_gives_71 ?_
      refine z_dup2 rfl rfl dX8_gives_72 ?_
      refine m_iald (p) (zl_a rfl rfl) rfl (by omega) (by decide) dX8_gives_73 ?_
      refine z_iconst (nI 1) (by decide) dX8_gives_74 ?_
      refine z_iadd dX8_gives_75 ?_
      refine m_iast (p) (zl_a rfl rfl) rfl (by omega) (by decide) dX8_gives_76 ?_
      exact z_vret (by rw [dgv, if_pos ⟨h2, h4⟩]; rfl) rfl (by decide) (by decide) dX8_gives_77
set_option maxRecDepth 100000 in
set_option maxHeartbeats 4000000 in
theorem lp3_X8_rounds {E : Nat × (Nat → Int32)} {g : Int64} {μ : zMu} {nc r : Nat} (hn : nc < 12) (hr60 : r ≤ 60)  : ∀ (n : Nat) (m : Nat) (y : Int32) (ν : zMu), 24 - m = n → m ≤ 24 → (y, ν) = zit (dr3 nc) 0 m (nI 0, μ) → (y = nI 0 ∨ y = nI 1) → ν 117 13 = nI nc → zV false E kX8_rounds 145 (.inl (some (.int (zit (dr3 nc) 0 24 (nI 0, μ)).1)), zm (zit (dr3 nc) 0 24 (nI 0, μ)).2 g) 129 [.ref (117), .int (nI r), .int (y), .int (nI m)] [] (zm ν g) 0 0 := by
  intro n
  induction n using Nat.strongRecOn with
  | ind n ih =>
    intro m y ν hm hle hs hy hnc
    refine z_iload_n rfl rfl dX8_rounds_129 ?_
    refine z_bipush (nI 24) (by decide) dX8_rounds_130 ?_
    refine z_icmp_ge 218 (by decide) dX8_rounds_132 (z_br (zcn (n := 24) (by omega) (m) (by omega)).2.2 (fun h1 => ?_)) (z_brn (zcn (n := 24) (by omega) (m) (by omega)).2.2 (fun h2 => ?_))
    · have hmL : m = 24 := by omega
      have hz : zit (dr3 nc) 0 24 (nI 0, μ) = (y, ν) := by rw [hs, hmL]
      refine z_iload_n rfl rfl dX8_rounds_218 ?_
      exact z_iret (by rw [hz]) rfl (zbn hy) (by decide) (by decide) dX8_rounds_219
    · refine z_aload_n rfl rfl dX8_rounds_135 ?_
      refine m_getR (144) kf_X8_89 (zl_a rfl rfl) rfl rfl (by decide) dX8_rounds_136 ?_
      refine z_iload_n rfl rfl dX8_rounds_139 ?_
      refine m_iald (m) (zl_a rfl rfl) rfl (by omega) (by decide) dX8_rounds_140 ?_
      refine z_if_le 212 (by decide) dX8_rounds_141 (fun h3 => ?_) (fun h4 => ?_)
      · refine z_iinc (nI (m + 1)) rfl (zinc _) (by decide) rfl dX8_rounds_212 ?_
        refine z_goto 129 (by decide) dX8_rounds_215 ?_
        exact ih (24 - (m + 1)) (by omega) (m + 1) (y) (ν) rfl (by omega) (zst0 hs (by rw [dr3, if_pos h3])) hy hnc
      · refine z_aload_n rfl rfl dX8_rounds_144 ?_
        refine m_getR (130) kf_X8_46 (zl_a rfl rfl) rfl rfl (by decide) dX8_rounds_145 ?_
        refine z_aload_n rfl rfl dX8_rounds_148 ?_
        refine m_getI kf_X8_100 (zl_a rfl rfl) rfl dX8_rounds_149 ?_
        refine m_eqv (w := nI nc) (hnc) ?_
        refine z_iload_n rfl rfl dX8_rounds_152 ?_
        refine z_callS (as := [.int (nI nc), .int (nI m)]) (ct_X8_spot (nc) (m)) ko_X8_spot kl_X8_122 rfl rfl ⟨by decide, by decide, by decide, by decide⟩ (Nat.le_of_ble_eq_true rfl) rfl dX8_rounds_153 ?_
        refine z_iconst (nI 1) (by decide) dX8_rounds_156 ?_
        refine m_zast (24 * nc + m) (zl_a rfl rfl) rfl (by omega) (by decide) (by decide) dX8_rounds_157 ?_
        refine z_aload_n rfl rfl dX8_rounds_158 ?_
        refine m_getR (131) kf_X8_50 (zl_a rfl rfl) rfl rfl (by decide) dX8_rounds_159 ?_
        refine z_aload_n rfl rfl dX8_rounds_162 ?_
        refine m_getI kf_X8_100 (zl_a rfl rfl) rfl dX8_rounds_163 ?_
        refine m_eqv (w := nI nc) (hnc) ?_
        refine z_iload_n rfl rfl dX8_rounds_166 ?_
        refine z_callS (as := [.int (nI nc), .int (nI m)]) (ct_X8_spot (nc) (m)) ko_X8_spot kl_X8_122 rfl rfl ⟨by decide, by decide, by decide, by decide⟩ (Nat.le_of_ble_eq_true rfl) rfl dX8_rounds_167 ?_
        refine z_aload_n rfl rfl dX8_rounds_170 ?_
        refine m_getR (142) kf_X8_83 (zl_a rfl rfl) rfl rfl (by decide) dX8_rounds_171 ?_
        refine z_iload_n rfl rfl dX8_rounds_174 ?_
        refine m_iald (m) (zl_a rfl rfl) rfl (by omega) (by decide) dX8_rounds_175 ?_
        refine z_aload_n rfl rfl dX8_rounds_176 ?_
        refine m_getR (144) kf_X8_89 (zl_a rfl rfl) rfl rfl (by decide) dX8_rounds_177 ?_
        refine z_iload_n rfl rfl dX8_rounds_180 ?_
        refine m_iald (m) (zl_a rfl rfl) rfl (by omega) (by decide) dX8_rounds_181 ?_
        refine z_idiv (fun q => h4 (by rw [show ν 144 m = 0 from q]; decide)) dX8_rounds_182 ?_
        refine m_iast (24 * nc + m) (zl_a rfl rfl) rfl (by omega) (by decide) dX8_rounds_183 ?_
        refine z_aload_n rfl rfl dX8_rounds_184 ?_
        refine m_getR (132) kf_X8_53 (zl_a rfl rfl) rfl rfl (by decide) dX8_rounds_185 ?_
        refine z_aload_n rfl rfl dX8_rounds_188 ?_
        refine m_getI kf_X8_100 (zl_a rfl rfl) rfl dX8_rounds_189 ?_
        refine m_eqv (w := nI nc) (hnc) ?_
        refine z_iload_n rfl rfl dX8_rounds_192 ?_
        refine z_callS (as := [.int (nI nc), .int (nI m)]) (ct_X8_spot (nc) (m)) ko_X8_spot kl_X8_122 rfl rfl ⟨by decide, by decide, by decide, by decide⟩ (Nat.le_of_ble_eq_true rfl) rfl dX8_rounds_193 ?_
        refine z_aload_n rfl rfl dX8_rounds_196 ?_
        refine m_getR (143) kf_X8_86 (zl_a rfl rfl) rfl rfl (by decide) dX8_rounds_197 ?_
        refine z_iload_n rfl rfl dX8_rounds_200 ?_
        refine m_iald (m) (zl_a rfl rfl) rfl (by omega) (by decide) dX8_rounds_201 ?_
        refine z_aload_n rfl rfl dX8_rounds_202 ?_
        refine m_getR (144) kf_X8_89 (zl_a rfl rfl) rfl rfl (by decide) dX8_rounds_203 ?_
        refine z_iload_n rfl rfl dX8_rounds_206 ?_
        refine m_iald (m) (zl_a rfl rfl) rfl (by omega) (by decide) dX8_rounds_207 ?_
        refine z_idiv (fun q => h4 (by rw [show ν 144 m = 0 from q]; decide)) dX8_rounds_208 ?_
        refine m_iast (24 * nc + m) (zl_a rfl rfl) rfl (by omega) (by decide) dX8_rounds_209 ?_
        refine z_iconst (nI 1) (by decide) dX8_rounds_210 ?_
        refine z_istore_n rfl (by decide) rfl dX8_rounds_211 ?_
        refine z_iinc (nI (m + 1)) rfl (zinc _) (by decide) rfl dX8_rounds_212 ?_
        refine z_goto 129 (by decide) dX8_rounds_215 ?_
        exact ih (24 - (m + 1)) (by omega) (m + 1) (nI 1) (zu (zu (zu ν (130) (24 * nc + m) (nI 1)) (131) (24 * nc + m) (((zu ν (130) (24 * nc + m) (nI 1)) (142) (m)) / ((zu ν (130) (24 * nc + m) (nI 1)) (144) (m)))) (132) (24 * nc + m) (((zu (zu ν (130) (24 * nc + m) (nI 1)) (131) (24 * nc + m) (((zu ν (130) (24 * nc + m) (nI 1)) (142) (m)) / ((zu ν (130) (24 * nc + m) (nI 1)) (144) (m)))) (143) (m)) / ((zu (zu ν (130) (24 * nc + m) (nI 1)) (131) (24 * nc + m) (((zu ν (130) (24 * nc + m) (nI 1)) (142) (m)) / ((zu ν (130) (24 * nc + m) (nI 1)) (144) (m)))) (144) (m)))) rfl (by omega) (zst0 hs (by rw [dr3, if_neg h4]; rfl)) (Or.inr rfl) hnc
set_option maxRecDepth 100000 in
set_option maxHeartbeats 4000000 in
theorem lp2_X8_rounds {E : Nat × (Nat → Int32)} {g : Int64} {μ : zMu} {nc r : Nat} (hn : nc < 12) (hr60 : r ≤ 60) {rf rt : Nat → Nat} {O : zO} (kk : zV false E kX8_rounds 145 O 125 [.ref (117), .int (nI r), .null, .null] [] (zm (zit (dr2 rf rt nc) 0 r μ) g) 0 0) : ∀ (n : Nat) (m : Nat) (ν : zMu), r - m = n → m ≤ r → ν = zit (dr2 rf rt nc) 0 m (μ) → (∀ i, i < r → ν 124 i = nI (rf i) ∧ ν 125 i = nI (rt i) ∧ rf i < 24 ∧ rt i < 24) → ν 117 13 = nI nc → zV false E kX8_rounds 145 O 56 [.ref (117), .int (nI r), .int (nI m), .null] [] (zm ν g) 0 0 := by
  intro n
  induction n using Nat.strongRecOn with
  | ind n ih =>
    intro m ν hm hle hs hft hnc
    refine z_iload_n rfl rfl dX8_rounds_56 ?_
    refine z_iload_n rfl rfl dX8_rounds_57 ?_
    refine z_icmp_ge 125 (by decide) dX8_rounds_58 (z_br (zcn (n := r) (by omega) (m) (by omega)).2.2 (fun h1 => ?_)) (z_brn (zcn (n := r) (by omega) (m) (by omega)).2.2 (fun h2 => ?_))
    · have hmL : m = r := by omega
      have hz : zit (dr2 rf rt nc) 0 r (μ) = ν := by rw [hs, hmL]
      rw [hz] at kk
      refine z_fgt [.ref (117), .int (nI r), .null, .null] ⟨Or.inl rfl, ⟨Or.inl rfl, ⟨Or.inr rfl, ⟨Or.inl rfl, trivial⟩⟩⟩⟩ ?_
      exact kk
    · have hfm := (hft m (by omega)).2.2.1
      have htm := (hft m (by omega)).2.2.2
      refine z_aload_n rfl rfl dX8_rounds_61 ?_
      refine z_aload_n rfl rfl dX8_rounds_62 ?_
      refine m_getR (125) kf_X8_31 (zl_a rfl rfl) rfl rfl (by decide) dX8_rounds_63 ?_
      refine z_iload_n rfl rfl dX8_rounds_66 ?_
      refine m_iald (m) (zl_a rfl rfl) rfl (by omega) (by decide) dX8_rounds_67 ?_
      refine m_eqv (w := nI (rt m)) ((hft m (by omega)).2.1) ?_
      refine z_aload_n rfl rfl dX8_rounds_68 ?_
      refine m_getR (124) kf_X8_28 (zl_a rfl rfl) rfl rfl (by decide) dX8_rounds_69 ?_
      refine z_iload_n rfl rfl dX8_rounds_72 ?_
      refine m_iald (m) (zl_a rfl rfl) rfl (by omega) (by decide) dX8_rounds_73 ?_
      refine m_eqv (w := nI (rf m)) ((hft m (by omega)).1) ?_
      refine z_aload_n rfl rfl dX8_rounds_74 ?_
      refine m_getR (126) kf_X8_34 (zl_a rfl rfl) rfl rfl (by decide) dX8_rounds_75 ?_
      refine z_iload_n rfl rfl dX8_rounds_78 ?_
      refine m_iald (m) (zl_a rfl rfl) rfl (by omega) (by decide) dX8_rounds_79 ?_
      refine z_aload_n rfl rfl dX8_rounds_80 ?_
      refine m_getR (127) kf_X8_37 (zl_a rfl rfl) rfl rfl (by decide) dX8_rounds_81 ?_
      refine z_iload_n rfl rfl dX8_rounds_84 ?_
      refine m_iald (m) (zl_a rfl rfl) rfl (by omega) (by decide) dX8_rounds_85 ?_
      refine z_callV (as := [.int (nI (rt m)), .int (nI (rf m)), .int (ν (126) (m)), .int (ν (127) (m))]) (ct_X8_gives (μ := ν) (nc := nc) hnc (by omega) (p := rt m) (f := rf m) (by omega) (by omega) (ν (126) (m)) (ν (127) (m))) ko_X8_gives kl_X8_126 rfl (zl_a rfl rfl) rfl rfl ⟨by decide, by decide, by decide, by decide⟩ (Nat.le_of_ble_eq_true rfl) rfl dX8_rounds_86 ?_
      refine z_aload_n rfl rfl dX8_rounds_89 ?_
      refine z_aload_n rfl rfl dX8_rounds_90 ?_
      refine m_getR (124) kf_X8_28 (zl_a rfl rfl) rfl rfl (by decide) dX8_rounds_91 ?_
      refine z_iload_n rfl rfl dX8_rounds_94 ?_
      refine m_iald (m) (zl_a rfl rfl) rfl (by omega) (by decide) dX8_rounds_95 ?_
      refine m_eqv (w := nI (rf m)) (((congrFun (dgv_o (by decide)) _).trans (hft m (by omega)).1)) ?_
      refine z_aload_n rfl rfl dX8_rounds_96 ?_
      refine m_getR (125) kf_X8_31 (zl_a rfl rfl) rfl rfl (by decide) dX8_rounds_97 ?_
      refine z_iload_n rfl rfl dX8_rounds_100 ?_
      refine m_iald (m) (zl_a rfl rfl) rfl (by omega) (by decide) dX8_rounds_101 ?_
      refine m_eqv (w := nI (rt m)) (((congrFun (dgv_o (by decide)) _).trans (hft m (by omega)).2.1)) ?_
      refine z_aload_n rfl rfl dX8_rounds_102 ?_
      refine m_getR (126) kf_X8_34 (zl_a rfl rfl) rfl rfl (by decide) dX8_rounds_103 ?_
      refine z_iload_n rfl rfl dX8_rounds_106 ?_
      refine m_iald (m) (zl_a rfl rfl) rfl (by omega) (by decide) dX8_rounds_107 ?_
      refine z_ineg dX8_rounds_108 ?_
      refine z_aload_n rfl rfl dX8_rounds_109 ?_
      refine m_getR (127) kf_X8_37 (zl_a rfl rfl) rfl rfl (by decide) dX8_rounds_110 ?_
      refine z_iload_n rfl rfl dX8_rounds_113 ?_
      refine m_iald (m) (zl_a rfl rfl) rfl (by omega) (by decide) dX8_rounds_114 ?_
      refine z_ineg dX8_rounds_115 ?_
      refine z_callV (as := [.int (nI (rf m)), .int (nI (rt m)), .int (-((dgv nc (rt m) (rf m) (ν (126) (m)) (ν (127) (m)) ν) (126) (m))), .int (-((dgv nc (rt m) (rf m) (ν (126) (m)) (ν (127) (m)) ν) (127) (m)))]) (ct_X8_gives (μ := dgv nc (rt m) (rf m) (ν (126) (m)) (ν (127) (m)) ν) (nc := nc) ((congrFun (dgv_o (by decide)) _).trans hnc) (by omega) (p := rf m) (f := rt m) (by omega) (by omega) (-((dgv nc (rt m) (rf m) (ν (126) (m)) (ν (127) (m)) ν) (126) (m))) (-((dgv nc (rt m) (rf m) (ν (126) (m)) (ν (127) (m)) ν) (127) (m)))) ko_X8_gives kl_X8_126 rfl (zl_a rfl rfl) rfl rfl ⟨by decide, by decide, by decide, by decide⟩ (Nat.le_of_ble_eq_true rfl) rfl dX8_rounds_116 ?_
      refine z_iinc (nI (m + 1)) rfl (zinc _) (by decide) rfl dX8_rounds_119 ?_
      refine z_goto 56 (by decide) dX8_rounds_122 ?_
      exact ih (r - (m + 1)) (by omega) (m + 1) (dgv nc (rf m) (rt m) (-((dgv nc (rt m) (rf m) (ν (126) (m)) (ν (127) (m)) ν) (126) (m))) (-((dgv nc (rt m) (rf m) (ν (126) (m)) (ν (127) (m)) ν) (127) (m))) (dgv nc (rt m) (rf m) (ν (126) (m)) (ν (127) (m)) ν)) rfl (by omega) (zst0 hs (by rw [show dgv nc (rt m) (rf m) (ν 126 m) (ν 127 m) ν 126 = ν 126 from dgv_o (by decide), show dgv nc (rt m) (rf m) (ν 126 m) (ν 127 m) ν 127 = ν 127 from dgv_o (by decide)]; rfl)) (fun i hi => by rw [dgv_o (by decide), dgv_o (by decide), dgv_o (by decide), dgv_o (by decide)]; exact hft i hi) ((congrFun (dgv_o (by decide)) _).trans ((congrFun (dgv_o (by decide)) _).trans hnc))
set_option maxRecDepth 100000 in
set_option maxHeartbeats 4000000 in
theorem lp1_X8_rounds {E : Nat × (Nat → Int32)} {g : Int64} {μ : zMu} {nc r : Nat} (hn : nc < 12) (hr60 : r ≤ 60) {O : zO} (kk : zV false E kX8_rounds 145 O 54 [.ref (117), .int (nI r), .null, .null] [] (zm (zit (dr1 nc) 0 24 μ) g) 0 0) : ∀ (n : Nat) (m : Nat) (ν : zMu), 24 - m = n → m ≤ 24 → ν = zit (dr1 nc) 0 m (μ) → (∀ i, i < 288 → ν 130 i = 0 ∨ ν 130 i = 1) → ν 117 13 = nI nc → zV false E kX8_rounds 145 O 2 [.ref (117), .int (nI r), .int (nI m), .null] [] (zm ν g) 0 0 := by
  intro n
  induction n using Nat.strongRecOn with
  | ind n ih =>
    intro m ν hm hle hs hB hnc
    refine z_iload_n rfl rfl dX8_rounds_2 ?_
    refine z_bipush (nI 24) (by decide) dX8_rounds_3 ?_
    refine z_icmp_ge 54 (by decide) dX8_rounds_5 (z_br (zcn (n := 24) (by omega) (m) (by omega)).2.2 (fun h1 => ?_)) (z_brn (zcn (n := 24) (by omega) (m) (by omega)).2.2 (fun h2 => ?_))
    · have hmL : m = 24 := by omega
      have hz : zit (dr1 nc) 0 24 (μ) = ν := by rw [hs, hmL]
      rw [hz] at kk
      refine z_fgt [.ref (117), .int (nI r), .null, .null] ⟨Or.inl rfl, ⟨Or.inl rfl, ⟨Or.inr rfl, ⟨Or.inl rfl, trivial⟩⟩⟩⟩ ?_
      exact kk
    · refine z_aload_n rfl rfl dX8_rounds_8 ?_
      refine m_getR (141) kf_X8_80 (zl_a rfl rfl) rfl rfl (by decide) dX8_rounds_9 ?_
      refine z_iload_n rfl rfl dX8_rounds_12 ?_
      refine z_aload_n rfl rfl dX8_rounds_13 ?_
      refine m_getR (130) kf_X8_46 (zl_a rfl rfl) rfl rfl (by decide) dX8_rounds_14 ?_
      refine z_aload_n rfl rfl dX8_rounds_17 ?_
      refine m_getI kf_X8_100 (zl_a rfl rfl) rfl dX8_rounds_18 ?_
      refine m_eqv (w := nI nc) (hnc) ?_
      refine z_iload_n rfl rfl dX8_rounds_21 ?_
      refine z_callS (as := [.int (nI nc), .int (nI m)]) (ct_X8_spot (nc) (m)) ko_X8_spot kl_X8_122 rfl rfl ⟨by decide, by decide, by decide, by decide⟩ (Nat.le_of_ble_eq_true rfl) rfl dX8_rounds_22 ?_
      refine m_zald (24 * nc + m) (zl_a rfl rfl) rfl (by omega) (by decide) dX8_rounds_25 ?_
      refine m_zast (m) (zl_a rfl rfl) rfl (by omega) (by decide) (hB _ (by omega)) dX8_rounds_26 ?_
      refine z_aload_n rfl rfl dX8_rounds_27 ?_
      refine m_getR (142) kf_X8_83 (zl_a rfl rfl) rfl rfl (by decide) dX8_rounds_28 ?_
      refine z_iload_n rfl rfl dX8_rounds_31 ?_
      refine z_iconst (nI 0) (by decide) dX8_rounds_32 ?_
      refine m_iast (m) (zl_a rfl rfl) rfl (by omega) (by decide) dX8_rounds_33 ?_
      refine z_aload_n rfl rfl dX8_rounds_34 ?_
      refine m_getR (143) kf_X8_86 (zl_a rfl rfl) rfl rfl (by decide) dX8_rounds_35 ?_
      refine z_iload_n rfl rfl dX8_rounds_38 ?_
      refine z_iconst (nI 0) (by decide) dX8_rounds_39 ?_
      refine m_iast (m) (zl_a rfl rfl) rfl (by omega) (by decide) dX8_rounds_40 ?_
      refine z_aload_n rfl rfl dX8_rounds_41 ?_
      refine m_getR (144) kf_X8_89 (zl_a rfl rfl) rfl rfl (by decide) dX8_rounds_42 ?_
      refine z_iload_n rfl rfl dX8_rounds_45 ?_
      refine z_iconst (nI 0) (by decide) dX8_rounds_46 ?_
      refine m_iast (m) (zl_a rfl rfl) rfl (by omega) (by decide) dX8_rounds_47 ?_
      refine z_iinc (nI (m + 1)) rfl (zinc _) (by decide) rfl dX8_rounds_48 ?_
      refine z_goto 2 (by decide) dX8_rounds_51 ?_
      exact ih (24 - (m + 1)) (by omega) (m + 1) (zu (zu (zu (zu ν (141) (m) (ν (130) (24 * nc + m))) (142) (m) (nI 0)) (143) (m) (nI 0)) (144) (m) (nI 0)) rfl (by omega) (zst0 hs (rfl)) (fun i hi => by rw [zu_r (by decide), zu_r (by decide), zu_r (by decide), zu_r (by decide)]; exact hB i hi) hnc
set_option maxRecDepth 100000 in
set_option maxHeartbeats 4000000 in
theorem ct_X8_rounds {E : Nat × (Nat → Int32)} {μ : Nat → Nat → Int32} {g : Int64} {nc r : Nat} (hnc : μ 117 13 = nI nc) (hn : nc < 12) (hr60 : r ≤ 60) {rf rt : Nat → Nat} (hft : ∀ i, i < r → μ 124 i = nI (rf i) ∧ μ 125 i = nI (rt i) ∧ rf i < 24 ∧ rt i < 24) (hB : ∀ i, i < 288 → μ 130 i = 0 ∨ μ 130 i = 1)  : zCt E kX8_rounds [.ref (117), .int (nI r)] (zm μ g) (.inl (some (.int (drounds rf rt nc r μ).1)), zm (drounds rf rt nc r μ).2 g) := by
  refine zCt_of ko_X8_rounds (Nat.le_of_ble_eq_true rfl) (zas_r (zas_i zas_0)) ⟨Nat.le_refl _, fun h => absurd h (Nat.lt_irrefl _)⟩ (Nat.le_of_ble_eq_true rfl) ?_
  show zV false E kX8_rounds 145 _ 0 [.ref (117), .int (nI r), .null, .null] [] (zm μ g) 0 0
  refine z_iconst (nI 0) (by decide) dX8_rounds_0 ?_
  refine z_istore_n rfl (by decide) rfl dX8_rounds_1 ?_
  refine z_fgt [.ref (117), .int (nI r), .int (nI 0), .null] ⟨Or.inl rfl, ⟨Or.inl rfl, ⟨Or.inl rfl, ⟨Or.inl rfl, trivial⟩⟩⟩⟩ ?_
  refine lp1_X8_rounds (nc := nc) (r := r) (by omega) (by omega) ?_ _ 0 _ rfl (Nat.zero_le _) rfl hB hnc
  refine z_iconst (nI 0) (by decide) dX8_rounds_54 ?_
  refine z_istore_n rfl (by decide) rfl dX8_rounds_55 ?_
  refine lp2_X8_rounds (nc := nc) (r := r) (by omega) (by omega) (rf := rf) (rt := rt) ?_ _ 0 _ rfl (Nat.zero_le _) rfl (fun i hi => by rw [zit_keep (dr1_o (by decide)), zit_keep (dr1_o (by decide))]; exact hft i hi) ((congrFun (zit_keep (dr1_o (by decide)) μ 24) 13).trans hnc)
  refine z_iconst (nI 0) (by decide) dX8_rounds_125 ?_
  refine z_istore_n rfl (by decide) rfl dX8_rounds_126 ?_
  refine z_iconst (nI 0) (by decide) dX8_rounds_127 ?_
  refine z_istore_n rfl (by decide) rfl dX8_rounds_128 ?_
  exact lp3_X8_rounds (nc := nc) (r := r) (by omega) (by omega) _ 0 _ _ rfl (Nat.zero_le _) rfl (Or.inl rfl) ((congrFun (zit_keep (dr2_o (by decide)) _ r) 13).trans ((congrFun (zit_keep (dr1_o (by decide)) μ 24) 13).trans hnc))
set_option maxRecDepth 100000 in
set_option maxHeartbeats 4000000 in
theorem lw_X8_chart {E : Nat × (Nat → Int32)} {g : Int64} {nc r : Nat} (hn : nc < 12) (hr60 : r ≤ 60) {y : Int32} {rf rt : Nat → Nat} {O : zO} (q : Nat) : ∀ (ν : zMu), dws rf rt nc r q ν → (∀ i, i < 288 → ν 130 i = 0 ∨ ν 130 i = 1) → (∀ i, i < r → ν 124 i = nI (rf i) ∧ ν 125 i = nI (rt i) ∧ rf i < 24 ∧ rt i < 24) → ν 117 13 = nI nc → zV false E kX8_chart 145 O 223 [.ref (117), .int (nI r), .int (y), .null, .null] [] (zm (dwh rf rt nc r q ν) g) 0 0 → zV false E kX8_chart 145 O 213 [.ref (117), .int (nI r), .int (y), .null, .null] [] (zm (ν) g) 0 0 := by
  induction q with
  | zero =>
    intro ν h
    exact (show False from h).elim
  | succ q ih =>
    intro ν hs hB hft hnc kk
    refine z_aload_n rfl rfl dX8_chart_213 ?_
    refine z_iload_n rfl rfl dX8_chart_214 ?_
    refine z_callV (as := [.int (nI r)]) (ct_X8_rounds (nc := nc) (r := r) hnc (by omega) (by omega) (rf := rf) (rt := rt) hft hB) ko_X8_rounds kl_X8_130 rfl (zl_a rfl rfl) rfl rfl ⟨by decide, by decide, by decide, by decide⟩ (Nat.le_of_ble_eq_true rfl) rfl dX8_chart_215 ?_
    refine z_istore (by decide) rfl dX8_chart_218 ?_
    refine z_goto 208 (by decide) dX8_chart_220 ?_
    refine z_iload rfl dX8_chart_208 ?_
    refine z_if_eq 223 (by decide) dX8_chart_210 (fun h1 => ?_) (fun h2 => ?_)
    · rw [dwh, if_pos h1] at kk
      refine z_fgt [.ref (117), .int (nI r), .int (y), .null, .null] ⟨Or.inl rfl, ⟨Or.inl rfl, ⟨Or.inl rfl, ⟨Or.inl rfl, ⟨Or.inr rfl, trivial⟩⟩⟩⟩⟩ ?_
      exact kk
    · rw [dwh, if_neg h2] at kk
      refine z_fgt [.ref (117), .int (nI r), .int (y), .null, .null] ⟨Or.inl rfl, ⟨Or.inl rfl, ⟨Or.inl rfl, ⟨Or.inl rfl, ⟨Or.inr rfl, trivial⟩⟩⟩⟩⟩ ?_
      exact ih _ (hs.resolve_left h2) (drounds_B hn hB) (fun i hi => by rw [drounds_o (by decide), drounds_o (by decide)]; exact hft i hi) ((congrFun (drounds_o (by decide)) 13).trans hnc) kk
set_option maxRecDepth 100000 in
set_option maxHeartbeats 4000000 in
theorem lp1_X8_chart {E : Nat × (Nat → Int32)} {g : Int64} {μ : zMu} {nc r : Nat} (hn : nc < 12) {y : Int32} {O : zO} (kk : zV false E kX8_chart 145 O 136 [.ref (117), .int (nI r), .int (y), .null, .null] [] (zm (zit (dc1 nc) 0 24 μ) g) 0 0) : ∀ (n : Nat) (m : Nat) (ν : zMu), 24 - m = n → m ≤ 24 → ν = zit (dc1 nc) 0 m (μ) → ν 117 13 = nI nc → zV false E kX8_chart 145 O 63 [.ref (117), .int (nI r), .int (y), .null, .int (nI m)] [] (zm ν g) 0 0 := by
  intro n
  induction n using Nat.strongRecOn with
  | ind n ih =>
    intro m ν hm hle hs hnc
    refine z_iload rfl dX8_chart_63 ?_
    refine z_bipush (nI 24) (by decide) dX8_chart_65 ?_
    refine z_icmp_ge 136 (by decide) dX8_chart_67 (z_br (zcn (n := 24) (by omega) (m) (by omega)).2.2 (fun h1 => ?_)) (z_brn (zcn (n := 24) (by omega) (m) (by omega)).2.2 (fun h2 => ?_))
    · have hmL : m = 24 := by omega
      have hz : zit (dc1 nc) 0 24 (μ) = ν := by rw [hs, hmL]
      rw [hz] at kk
      refine z_fgt [.ref (117), .int (nI r), .int (y), .null, .null] ⟨Or.inl rfl, ⟨Or.inl rfl, ⟨Or.inl rfl, ⟨Or.inl rfl, ⟨Or.inr rfl, trivial⟩⟩⟩⟩⟩ ?_
      exact kk
    · refine z_aload_n rfl rfl dX8_chart_70 ?_
      refine m_getR (130) kf_X8_46 (zl_a rfl rfl) rfl rfl (by decide) dX8_chart_71 ?_
      refine z_aload_n rfl rfl dX8_chart_74 ?_
      refine m_getI kf_X8_100 (zl_a rfl rfl) rfl dX8_chart_75 ?_
      refine m_eqv (w := nI nc) (hnc) ?_
      refine z_iload rfl dX8_chart_78 ?_
      refine z_callS (as := [.int (nI nc), .int (nI m)]) (ct_X8_spot (nc) (m)) ko_X8_spot kl_X8_122 rfl rfl ⟨by decide, by decide, by decide, by decide⟩ (Nat.le_of_ble_eq_true rfl) rfl dX8_chart_80 ?_
      refine z_iload rfl dX8_chart_83 ?_
      refine z_if_ne 92 (by decide) dX8_chart_85 (z_brn (z0e (n := m) (by omega)) (fun h3 => ?_)) (z_br (z0e (n := m) (by omega)) (fun h4 => ?_))
      · refine z_iconst (nI 0) (by decide) dX8_chart_92 ?_
        refine m_zast (24 * nc + m) (zl_a rfl rfl) rfl (by omega) (by decide) (by decide) dX8_chart_93 ?_
        refine z_aload_n rfl rfl dX8_chart_94 ?_
        refine m_getR (133) kf_X8_56 (zl_a rfl rfl) rfl rfl (by decide) dX8_chart_95 ?_
        refine z_aload_n rfl rfl dX8_chart_98 ?_
        refine m_getI kf_X8_100 (zl_a rfl rfl) rfl dX8_chart_99 ?_
        refine m_eqv (w := nI nc) (hnc) ?_
        refine z_iload rfl dX8_chart_102 ?_
        refine z_callS (as := [.int (nI nc), .int (nI m)]) (ct_X8_spot (nc) (m)) ko_X8_spot kl_X8_122 rfl rfl ⟨by decide, by decide, by decide, by decide⟩ (Nat.le_of_ble_eq_true rfl) rfl dX8_chart_104 ?_
        refine z_aload_n rfl rfl dX8_chart_107 ?_
        refine m_getR (120) kf_X8_16 (zl_a rfl rfl) rfl rfl (by decide) dX8_chart_108 ?_
        refine z_iload rfl dX8_chart_111 ?_
        refine m_iald (m) (zl_a rfl rfl) rfl (by omega) (by decide) dX8_chart_113 ?_
        refine m_iast (24 * nc + m) (zl_a rfl rfl) rfl (by omega) (by decide) dX8_chart_114 ?_
        refine z_aload_n rfl rfl dX8_chart_115 ?_
        refine m_getR (134) kf_X8_59 (zl_a rfl rfl) rfl rfl (by decide) dX8_chart_116 ?_
        refine z_aload_n rfl rfl dX8_chart_119 ?_
        refine m_getI kf_X8_100 (zl_a rfl rfl) rfl dX8_chart_120 ?_
        refine m_eqv (w := nI nc) (hnc) ?_
        refine z_iload rfl dX8_chart_123 ?_
        refine z_callS (as := [.int (nI nc), .int (nI m)]) (ct_X8_spot (nc) (m)) ko_X8_spot kl_X8_122 rfl rfl ⟨by decide, by decide, by decide, by decide⟩ (Nat.le_of_ble_eq_true rfl) rfl dX8_chart_125 ?_
        refine z_iconst (-1) (by decide) dX8_chart_128 ?_
        refine m_iast (24 * nc + m) (zl_a rfl rfl) rfl (by omega) (by decide) dX8_chart_129 ?_
        refine z_iinc (nI (m + 1)) rfl (zinc _) (by decide) rfl dX8_chart_130 ?_
        refine z_goto 63 (by decide) dX8_chart_133 ?_
        exact ih (24 - (m + 1)) (by omega) (m + 1) (zu (zu (zu ν (130) (24 * nc + m) (nI 0)) (133) (24 * nc + m) ((zu ν (130) (24 * nc + m) (nI 0)) (120) (m))) (134) (24 * nc + m) (-1)) rfl (by omega) (zst0 hs (by rw [dc1, if_neg h3]; rfl)) hnc
      · refine z_iconst (nI 1) (by decide) dX8_chart_88 ?_
        refine z_goto 93 (by decide) dX8_chart_89 ?_
        refine m_zast (24 * nc + m) (zl_a rfl rfl) rfl (by omega) (by decide) (by decide) dX8_chart_93 ?_
        refine z_aload_n rfl rfl dX8_chart_94 ?_
        refine m_getR (133) kf_X8_56 (zl_a rfl rfl) rfl rfl (by decide) dX8_chart_95 ?_
        refine z_aload_n rfl rfl dX8_chart_98 ?_
        refine m_getI kf_X8_100 (zl_a rfl rfl) rfl dX8_chart_99 ?_
        refine m_eqv (w := nI nc) (hnc) ?_
        refine z_iload rfl dX8_chart_102 ?_
        refine z_callS (as := [.int (nI nc), .int (nI m)]) (ct_X8_spot (nc) (m)) ko_X8_spot kl_X8_122 rfl rfl ⟨by decide, by decide, by decide, by decide⟩ (Nat.le_of_ble_eq_true rfl) rfl dX8_chart_104 ?_
        refine z_aload_n rfl rfl dX8_chart_107 ?_
        refine m_getR (120) kf_X8_16 (zl_a rfl rfl) rfl rfl (by decide) dX8_chart_108 ?_
        refine z_iload rfl dX8_chart_111 ?_
        refine m_iald (m) (zl_a rfl rfl) rfl (by omega) (by decide) dX8_chart_113 ?_
        refine m_iast (24 * nc + m) (zl_a rfl rfl) rfl (by omega) (by decide) dX8_chart_114 ?_
        refine z_aload_n rfl rfl dX8_chart_115 ?_
        refine m_getR (134) kf_X8_59 (zl_a rfl rfl) rfl rfl (by decide) dX8_chart_116 ?_
        refine z_aload_n rfl rfl dX8_chart_119 ?_
        refine m_getI kf_X8_100 (zl_a rfl rfl) rfl dX8_chart_120 ?_
        refine m_eqv (w := nI nc) (hnc) ?_
        refine z_iload rfl dX8_chart_123 ?_
        refine z_callS (as := [.int (nI nc), .int (nI m)]) (ct_X8_spot (nc) (m)) ko_X8_spot kl_X8_122 rfl rfl ⟨by decide, by decide, by decide, by decide⟩ (Nat.le_of_ble_eq_true rfl) rfl dX8_chart_125 ?_
        refine z_iconst (-1) (by decide) dX8_chart_128 ?_
        refine m_iast (24 * nc + m) (zl_a rfl rfl) rfl (by omega) (by decide) dX8_chart_129 ?_
        refine z_iinc (nI (m + 1)) rfl (zinc _) (by decide) rfl dX8_chart_130 ?_
        refine z_goto 63 (by decide) dX8_chart_133 ?_
        exact ih (24 - (m + 1)) (by omega) (m + 1) (zu (zu (zu ν (130) (24 * nc + m) (nI 1)) (133) (24 * nc + m) ((zu ν (130) (24 * nc + m) (nI 1)) (120) (m))) (134) (24 * nc + m) (-1)) rfl (by omega) (zst0 hs (by rw [dc1, if_pos h4]; rfl)) hnc
set_option maxRecDepth 100000 in
set_option maxHeartbeats 4000000 in
theorem lp2_X8_chart {E : Nat × (Nat → Int32)} {g : Int64} {μ : zMu} {nc r : Nat} (hn : nc < 12) {y : Int32} {O : zO} (kk : zV false E kX8_chart 145 O 205 [.ref (117), .int (nI r), .int (y), .null, .null] [] (zm (zit (dc2 nc) 0 3 μ) g) 0 0) : ∀ (n : Nat) (m : Nat) (ν : zMu), 3 - m = n → m ≤ 3 → ν = zit (dc2 nc) 0 m (μ) → ν 117 13 = nI nc → zV false E kX8_chart 145 O 177 [.ref (117), .int (nI r), .int (y), .null, .int (nI m)] [] (zm ν g) 0 0 := by
  intro n
  induction n using Nat.strongRecOn with
  | ind n ih =>
    intro m ν hm hle hs hnc
    refine z_iload rfl dX8_chart_177 ?_
    refine z_iconst (nI 3) (by decide) dX8_chart_179 ?_
    refine z_icmp_ge 205 (by decide) dX8_chart_180 (z_br (zcn (n := 3) (by omega) (m) (by omega)).2.2 (fun h1 => ?_)) (z_brn (zcn (n := 3) (by omega) (m) (by omega)).2.2 (fun h2 => ?_))
    · have hmL : m = 3 := by omega
      have hz : zit (dc2 nc) 0 3 (μ) = ν := by rw [hs, hmL]
      rw [hz] at kk
      refine z_fgt [.ref (117), .int (nI r), .int (y), .null, .null] ⟨Or.inl rfl, ⟨Or.inl rfl, ⟨Or.inl rfl, ⟨Or.inl rfl, ⟨Or.inr rfl, trivial⟩⟩⟩⟩⟩ ?_
      exact kk
    · refine z_aload_n rfl rfl dX8_chart_183 ?_
      refine m_getR (129) kf_X8_43 (zl_a rfl rfl) rfl rfl (by decide) dX8_chart_184 ?_
      refine z_iconst (nI 3) (by decide) dX8_chart_187 ?_
      refine z_aload_n rfl rfl dX8_chart_188 ?_
      refine m_getI kf_X8_100 (zl_a rfl rfl) rfl dX8_chart_189 ?_
      refine m_eqv (w := nI nc) (hnc) ?_
      refine m_mulN dX8_chart_192 ?_
      refine z_iload rfl dX8_chart_193 ?_
      refine m_addN dX8_chart_195 ?_
      refine z_bipush (nI 100) (by decide) dX8_chart_196 ?_
      refine m_iast ((3 * nc) + m) (zl_a rfl rfl) rfl (by omega) (by decide) dX8_chart_198 ?_
      refine z_iinc (nI (m + 1)) rfl (zinc _) (by decide) rfl dX8_chart_199 ?_
      refine z_goto 177 (by decide) dX8_chart_202 ?_
      exact ih (3 - (m + 1)) (by omega) (m + 1) (zu ν (129) ((3 * nc) + m) (nI 100)) rfl (by omega) (zst0 hs (rfl)) hnc
set_option maxRecDepth 100000 in
set_option maxHeartbeats 4000000 in
theorem rs3_X8_chart {E : Nat × (Nat → Int32)} {μ : Nat → Nat → Int32} {g : Int64} {nc r : Nat} (hnc : μ 117 13 = nI nc) (hn : nc < 12) {y : Int32} : zV false E kX8_chart 145 (.inl (some (.int (nI nc))), zm (zu (zu μ 128 nc y) 117 13 (nI (nc + 1))) g) 223 [.ref (117), .int (nI r), .int (y), .null, .null] [] (zm μ g) 0 0 := by
  refine z_aload_n rfl rfl dX8_chart_223 ?_
  refine m_getR (128) kf_X8_40 (zl_a rfl rfl) rfl rfl (by decide) dX8_chart_224 ?_
  refine z_aload_n rfl rfl dX8_chart_227 ?_
  refine m_getI kf_X8_100 (zl_a rfl rfl) rfl dX8_chart_228 ?_
  refine m_eqv (w := nI nc) (hnc) ?_
  refine z_iload_n rfl rfl dX8_chart_231 ?_
  refine m_iast (nc) (zl_a rfl rfl) rfl (by omega) (by decide) dX8_chart_232 ?_
  refine z_aload_n rfl rfl dX8_chart_233 ?_
  refine z_dup rfl dX8_chart_234 ?_
  refine m_getI kf_X8_100 (zl_a rfl rfl) rfl dX8_chart_235 ?_
  refine m_eqv (w := nI nc) (hnc) ?_
  refine z_iconst (nI 1) (by decide) dX8_chart_238 ?_
  refine m_addN dX8_chart_239 ?_
  refine m_putI kf_X8_100 (zl_a rfl rfl) rfl dX8_chart_240 ?_
  refine z_aload_n rfl rfl dX8_chart_243 ?_
  refine m_getI kf_X8_100 (zl_a rfl rfl) rfl dX8_chart_244 ?_
  refine m_eqv (w := nI (nc + 1)) (rfl) ?_
  refine z_iconst (nI 1) (by decide) dX8_chart_247 ?_
  refine m_subN (by omega) dX8_chart_248 ?_
  exact z_iret (rfl) rfl (znarI _) (by decide) (by decide) dX8_chart_249
set_option maxRecDepth 100000 in
set_option maxHeartbeats 4000000 in
theorem rs2_X8_chart {E : Nat × (Nat → Int32)} {μ : Nat → Nat → Int32} {g : Int64} {nc r q : Nat} (hnc : μ 117 13 = nI nc) (hn : nc < 12) (hr60 : r ≤ 60) {y : Int32} {rf rt : Nat → Nat} (hft : ∀ i, i < r → μ 124 i = nI (rf i) ∧ μ 125 i = nI (rt i) ∧ rf i < 24 ∧ rt i < 24) (hB : ∀ i, i < 288 → μ 130 i = 0 ∨ μ 130 i = 1) (hw : dws rf rt nc r q μ) : zV false E kX8_chart 145 (.inl (some (.int (nI nc))), zm (zu (zu (dwh rf rt nc r q μ) 128 nc y) 117 13 (nI (nc + 1))) g) 205 [.ref (117), .int (nI r), .int (y), .null, .null] [] (zm μ g) 0 0 := by
  refine z_iconst (nI 1) (by decide) dX8_chart_205 ?_
  refine z_istore (by decide) rfl dX8_chart_206 ?_
  refine z_iload rfl dX8_chart_208 ?_
  refine z_if_eq 223 (by decide) dX8_chart_210 (fun h => absurd h (by decide)) (fun _ => ?_)
  refine z_fgt [.ref (117), .int (nI r), .int (y), .null, .null] ⟨Or.inl rfl, ⟨Or.inl rfl, ⟨Or.inl rfl, ⟨Or.inl rfl, ⟨Or.inr rfl, trivial⟩⟩⟩⟩⟩ ?_
  exact lw_X8_chart hn hr60 q μ hw hB hft hnc (rs3_X8_chart ((congrFun (dwh_o (by decide) q μ) 13).trans hnc) hn)
set_option maxRecDepth 100000 in
set_option maxHeartbeats 4000000 in
theorem rs1_X8_chart {E : Nat × (Nat → Int32)} {μ : Nat → Nat → Int32} {g : Int64} {nc r q : Nat} (hnc : μ 117 13 = nI nc) (hn : nc < 12) (hr60 : r ≤ 60) {y : Int32} {rf rt : Nat → Nat} (hft : ∀ i, i < r → μ 124 i = nI (rf i) ∧ μ 125 i = nI (rt i) ∧ rf i < 24 ∧ rt i < 24) (hB : ∀ i, i < 288 → μ 130 i = 0 ∨ μ 130 i = 1) (hw : dws rf rt nc r q (dch2 nc μ)) : zV false E kX8_chart 145 (.inl (some (.int (nI nc))), zm (zu (zu (dwh rf rt nc r q (dch2 nc μ)) 128 nc y) 117 13 (nI (nc + 1))) g) 60 [.ref (117), .int (nI r), .int (y), .null, .null] [] (zm μ g) 0 0 := by
  refine z_iconst (nI 0) (by decide) dX8_chart_60 ?_
  refine z_istore (by decide) rfl dX8_chart_61 ?_
  refine lp1_X8_chart (nc := nc) (by omega) ?_ _ 0 _ rfl (Nat.zero_le _) rfl hnc
  have hnc1 : zit (dc1 nc) 0 24 μ 117 13 = nI nc := (congrFun (zit_keep (dc1_o (by decide)) μ 24) 13).trans hnc
  show zV false E kX8_chart 145 _ 136 [.ref (117), .int (nI r), .int (y), .null, .null] [] (zm (dch0 nc μ) g) 0 0
  refine z_aload_n rfl rfl dX8_chart_136 ?_
  refine m_getR (131) kf_X8_50 (zl_a rfl rfl) rfl rfl (by decide) dX8_chart_137 ?_
  refine z_aload_n rfl rfl dX8_chart_140 ?_
  refine m_getI kf_X8_100 (zl_a rfl rfl) rfl dX8_chart_141 ?_
  refine m_eqv (w := nI nc) (hnc1) ?_
  refine z_iconst (nI 0) (by decide) dX8_chart_144 ?_
  refine z_callS (as := [.int (nI nc), .int (nI 0)]) (ct_X8_spot (nc) (0)) ko_X8_spot kl_X8_122 rfl rfl ⟨by decide, by decide, by decide, by decide⟩ (Nat.le_of_ble_eq_true rfl) rfl dX8_chart_145 ?_
  refine z_aload_n rfl rfl dX8_chart_148 ?_
  refine m_getR (118) kf_X8_7 (zl_a rfl rfl) rfl rfl (by decide) dX8_chart_149 ?_
  refine z_iconst (nI 0) (by decide) dX8_chart_152 ?_
  refine m_iald (0) (zl_a rfl rfl) rfl (by omega) (by decide) dX8_chart_153 ?_
  refine m_iast (24 * nc + 0) (zl_a rfl rfl) rfl (by omega) (by decide) dX8_chart_154 ?_
  refine z_aload_n rfl rfl dX8_chart_155 ?_
  refine m_getR (132) kf_X8_53 (zl_a rfl rfl) rfl rfl (by decide) dX8_chart_156 ?_
  refine z_aload_n rfl rfl dX8_chart_159 ?_
  refine m_getI kf_X8_100 (zl_a rfl rfl) rfl dX8_chart_160 ?_
  refine m_eqv (w := nI nc) (hnc1) ?_
  refine z_iconst (nI 0) (by decide) dX8_chart_163 ?_
  refine z_callS (as := [.int (nI nc), .int (nI 0)]) (ct_X8_spot (nc) (0)) ko_X8_spot kl_X8_122 rfl rfl ⟨by decide, by decide, by decide, by decide⟩ (Nat.le_of_ble_eq_true rfl) rfl dX8_chart_164 ?_
  refine z_aload_n rfl rfl dX8_chart_167 ?_
  refine m_getR (119) kf_X8_13 (zl_a rfl rfl) rfl rfl (by decide) dX8_chart_168 ?_
  refine z_iconst (nI 0) (by decide) dX8_chart_171 ?_
  refine m_iald (0) (zl_a rfl rfl) rfl (by omega) (by decide) dX8_chart_172 ?_
  refine m_iast (24 * nc + 0) (zl_a rfl rfl) rfl (by omega) (by decide) dX8_chart_173 ?_
  refine z_iconst (nI 0) (by decide) dX8_chart_174 ?_
  refine z_istore (by decide) rfl dX8_chart_175 ?_
  refine lp2_X8_chart (μ := dch1 nc μ) (nc := nc) (by omega) ?_ _ 0 _ rfl (Nat.zero_le _) rfl hnc1
  exact rs2_X8_chart (μ := dch2 nc μ) ((congrFun (zit_keep (dc2_o (by decide)) _ 3) 13).trans hnc1) hn hr60 (rf := rf) (rt := rt) (fun i hi => by rw [dch2_o (by decide), dch2_o (by decide)]; exact hft i hi) (dch2_B hn hB) hw
set_option maxRecDepth 100000 in
set_option maxHeartbeats 4000000 in
theorem ctx_X8_chart {E : Nat × (Nat → Int32)} {μ : Nat → Nat → Int32} {g : Int64} {nr : Nat} (hnr : μ 117 8 = nI nr) (hr60 : nr ≤ 60) {p y : Int32} (hbad : ¬ (¬ p < nI 1 ∧ ¬ nI nr < p)) : zCt E kX8_chart [.ref (117), .int (p), .int (y)] (zm μ g) (.inl (some (.int (nI 0))), zm ((zu μ 117 0 (nI 1))) g) := by
  refine zCt_of ko_X8_chart (Nat.le_of_ble_eq_true rfl) (zas_r (zas_i (zas_i zas_0))) ⟨Nat.le_refl _, fun h => absurd h (Nat.lt_irrefl _)⟩ (Nat.le_of_ble_eq_true rfl) ?_
  show zV false E kX8_chart 145 _ 0 [.ref (117), .int (p), .int (y), .null, .null] [] (zm μ g) 0 0
  refine z_iload_n rfl rfl dX8_chart_0 ?_
  refine z_iconst (nI 1) (by decide) dX8_chart_1 ?_
  refine z_aload_n rfl rfl dX8_chart_2 ?_
  refine m_getI kf_X8_116 (zl_a rfl rfl) rfl dX8_chart_3 ?_
  refine m_eqv (w := nI nr) (hnr) ?_
  refine z_callS (as := [.int (p), .int (nI 1), .int (nI nr)]) (ct_X8_isIn (p) (nI 1) (nI nr)) ko_X8_isIn kl_X8_96 rfl rfl ⟨by decide, by decide, by decide, by decide⟩ (Nat.le_of_ble_eq_true rfl) rfl dX8_chart_6 ?_
  refine z_if_eq 23 (by decide) dX8_chart_9 (z_br zb_0 (fun h1 => ?_)) (z_br zb_n (fun h2 => ?_))
  · refine z_iconst (nI 0) (by decide) dX8_chart_23 ?_
    refine z_istore_n rfl (by decide) rfl dX8_chart_24 ?_
    refine z_aload_n rfl rfl dX8_chart_25 ?_
    refine z_iload_n rfl rfl dX8_chart_26 ?_
    refine z_if_ne 34 (by decide) dX8_chart_27 (fun h => absurd h (by decide)) (fun _ => ?_)
    refine z_iconst (nI 1) (by decide) dX8_chart_30 ?_
    refine z_goto 48 (by decide) dX8_chart_31 ?_
    refine m_putI kf_X8_92 (zl_a rfl rfl) rfl dX8_chart_48 ?_
    refine z_aload_n rfl rfl dX8_chart_51 ?_
    refine m_getI kf_X8_92 (zl_a rfl rfl) rfl dX8_chart_52 ?_
    refine m_eqv (w := nI 1) (rfl) ?_
    refine z_if_le 60 (by decide) dX8_chart_55 (fun h => absurd h (by decide)) (fun _ => ?_)
    refine z_iconst (nI 0) (by decide) dX8_chart_58 ?_
    exact z_iret (rfl) rfl (znarI _) (by decide) (by decide) dX8_chart_59
  · exact absurd (by repeat' (first | assumption | apply And.intro)) hbad
set_option maxRecDepth 100000 in
set_option maxHeartbeats 4000000 in
theorem ct_X8_chart {E : Nat × (Nat → Int32)} {μ : Nat → Nat → Int32} {g : Int64} {nc : Nat} (hnc : μ 117 13 = nI nc) (hn12 : nc ≤ 12) {nr : Nat} (hnr : μ 117 8 = nI nr) (hr60 : nr ≤ 60) {r q : Nat} (hr1 : 1 ≤ r) (hr2 : r ≤ nr) {y : Int32} {rf rt : Nat → Nat} (hft : ∀ i, i < r → μ 124 i = nI (rf i) ∧ μ 125 i = nI (rt i) ∧ rf i < 24 ∧ rt i < 24) (hB : ∀ i, i < 288 → μ 130 i = 0 ∨ μ 130 i = 1) (hw : nc < 12 → dws rf rt nc r q (dch2 nc (zu μ 117 0 (nI 0))))  : zCt E kX8_chart [.ref (117), .int (nI r), .int (y)] (zm μ g) (if ¬ zyr y then (.inl (some (.int (nI 0))), zm ((zu μ 117 0 (nI 1))) g) else if ¬ nc < 12 then (.inl (some (.int (nI 0))), zm ((zu μ 117 0 (nI 2))) g) else (.inl (some (.int (nI nc))), zm (zu (zu (dwh rf rt nc r q (dch2 nc (zu μ 117 0 (nI 0)))) 128 nc y) 117 13 (nI (nc + 1))) g) : zO) := by
  refine zCt_of ko_X8_chart (Nat.le_of_ble_eq_true rfl) (zas_r (zas_i (zas_i zas_0))) (zMM (zifn rfl (zifn rfl rfl))) (Nat.le_of_ble_eq_true rfl) ?_
  show zV false E kX8_chart 145 _ 0 [.ref (117), .int (nI r), .int (y), .null, .null] [] (zm μ g) 0 0
  refine z_iload_n rfl rfl dX8_chart_0 ?_
  refine z_iconst (nI 1) (by decide) dX8_chart_1 ?_
  refine z_aload_n rfl rfl dX8_chart_2 ?_
  refine m_getI kf_X8_116 (zl_a rfl rfl) rfl dX8_chart_3 ?_
  refine m_eqv (w := nI nr) (hnr) ?_
  refine z_callS (as := [.int (nI r), .int (nI 1), .int (nI nr)]) (ct_X8_isInN (l := 1) (j := r) (h := nr) (by omega) (by omega) (by omega)) ko_X8_isIn kl_X8_96 rfl rfl ⟨by decide, by decide, by decide, by decide⟩ (Nat.le_of_ble_eq_true rfl) rfl dX8_chart_6 ?_
  refine z_if_eq 23 (by decide) dX8_chart_9 (fun h => absurd h (by decide)) (fun _ => ?_)
  refine z_iload_n rfl rfl dX8_chart_12 ?_
  refine z_callS (as := [.int (y)]) (ct_X8_isYear (y)) ko_X8_isYear kl_X8_110 rfl rfl ⟨by decide, by decide, by decide, by decide⟩ (Nat.le_of_ble_eq_true rfl) rfl dX8_chart_13 ?_
  refine z_if_eq 23 (by decide) dX8_chart_16 (z_br zb_0 (fun h1 => ?_)) (z_br zb_n (fun h2 => ?_))
  · refine z_iconst (nI 0) (by decide) dX8_chart_23 ?_
    refine z_istore_n rfl (by decide) rfl dX8_chart_24 ?_
    refine z_aload_n rfl rfl dX8_chart_25 ?_
    refine z_iload_n rfl rfl dX8_chart_26 ?_
    refine z_if_ne 34 (by decide) dX8_chart_27 (fun h => absurd h (by decide)) (fun _ => ?_)
    refine z_iconst (nI 1) (by decide) dX8_chart_30 ?_
    refine z_goto 48 (by decide) dX8_chart_31 ?_
    refine m_putI kf_X8_92 (zl_a rfl rfl) rfl dX8_chart_48 ?_
    refine z_aload_n rfl rfl dX8_chart_51 ?_
    refine m_getI kf_X8_92 (zl_a rfl rfl) rfl dX8_chart_52 ?_
    refine m_eqv (w := nI 1) (rfl) ?_
    refine z_if_le 60 (by decide) dX8_chart_55 (fun h => absurd h (by decide)) (fun _ => ?_)
    refine z_iconst (nI 0) (by decide) dX8_chart_58 ?_
    exact z_iret ((if_pos (by assumption)).trans rfl) rfl (znarI _) (by decide) (by decide) dX8_chart_59
  · refine z_iconst (nI 1) (by decide) dX8_chart_19 ?_
    refine z_goto 24 (by decide) dX8_chart_20 ?_
    refine z_istore_n rfl (by decide) rfl dX8_chart_24 ?_
    refine z_aload_n rfl rfl dX8_chart_25 ?_
    refine z_iload_n rfl rfl dX8_chart_26 ?_
    refine z_if_ne 34 (by decide) dX8_chart_27 (fun _ => ?_) (fun h => absurd h (by decide))
    refine z_aload_n rfl rfl dX8_chart_34 ?_
    refine m_getI kf_X8_100 (zl_a rfl rfl) rfl dX8_chart_35 ?_
    refine m_eqv (w := nI nc) (hnc) ?_
    refine z_bipush (nI 12) (by decide) dX8_chart_38 ?_
    refine z_icmp_ne 47 (by decide) dX8_chart_40 (z_brn (zcn (n := nc) (by omega) (12) (by omega)).1 (fun h3 => ?_)) (z_br (zcn (n := nc) (by omega) (12) (by omega)).1 (fun h4 => ?_))
    · refine z_iconst (nI 0) (by decide) dX8_chart_47 ?_
      refine m_putI kf_X8_92 (zl_a rfl rfl) rfl dX8_chart_48 ?_
      refine z_aload_n rfl rfl dX8_chart_51 ?_
      refine m_getI kf_X8_92 (zl_a rfl rfl) rfl dX8_chart_52 ?_
      refine m_eqv (w := nI 0) (rfl) ?_
      refine z_if_le 60 (by decide) dX8_chart_55 (fun _ => ?_) (fun h => absurd h (by decide))
      refine z_oeq ((if_neg (fun q => q (by assumption))).trans ((if_neg (by omega)).trans rfl)) ?_
      refine z_fgt [.ref (117), .int (nI r), .int (y), .null, .null] ⟨Or.inl rfl, ⟨Or.inl rfl, ⟨Or.inl rfl, ⟨Or.inr rfl, ⟨Or.inl rfl, trivial⟩⟩⟩⟩⟩ ?_
      exact rs1_X8_chart (μ := (zu μ 117 0 (nI 0))) hnc (by omega) (by omega) (rf := rf) (rt := rt) (fun i hi => hft i hi) hB (hw (by omega))
    · refine z_iconst (nI 2) (by decide) dX8_chart_43 ?_
      refine z_goto 48 (by decide) dX8_chart_44 ?_
      refine m_putI kf_X8_92 (zl_a rfl rfl) rfl dX8_chart_48 ?_
      refine z_aload_n rfl rfl dX8_chart_51 ?_
      refine m_getI kf_X8_92 (zl_a rfl rfl) rfl dX8_chart_52 ?_
      refine m_eqv (w := nI 2) (rfl) ?_
      refine z_if_le 60 (by decide) dX8_chart_55 (fun h => absurd h (by decide)) (fun _ => ?_)
      refine z_iconst (nI 0) (by decide) dX8_chart_58 ?_
      exact z_iret ((if_neg (fun q => q (by assumption))).trans ((if_pos (by omega)).trans rfl)) rfl (znarI _) (by decide) (by decide) dX8_chart_59
